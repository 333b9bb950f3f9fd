/-! sentry -/
theorem as_eq (n : Nat) (u1 u3 u4 : Int32) (S : Nat → Nat → Int32) : fk_p_addSentry (n + 1) u1 u3 u4 S = (if 2 ≤ u4 then ((u3, (xj_set S 1 5 ((S 1 5) + 1)))) else (fk_p_addSentry n u1 u3 (u4 + 1) (xj_set S 5 u1.toNatClampNeg ((S 5 u1.toNatClampNeg) ||| (r_p_partBit S u3 u4)))) : Int32 × (Nat → Nat → Int32)) := rfl
theorem as_d (n : Nat) (u1 u3 u4 : Int32) (S : Nat → Nat → Int32) : dk_p_addSentry (n + 1) u1 u3 u4 S = ((2 ≤ u4 → (True)) ∧ (¬ (2 ≤ u4) → (vp_in u1 12 ∧ (d_p_partBit S u3 u4 ∧ (vp_in u1 12 ∧ (dk_p_addSentry n u1 u3 (u4 + 1) (xj_set S 5 u1.toNatClampNeg ((S 5 u1.toNatClampNeg) ||| (r_p_partBit S u3 u4))))))))) := rfl
theorem bit2 {ns b : Nat} (h : ns < 16) (hb : b < 32) (x : Int32) : xb ((x ||| ((1 : Int32) <<< (nI (2 * ns) &&& 31))) ||| ((1 : Int32) <<< (nI (2 * ns + 1) &&& 31))) b = (xb x b || decide (b / 2 = ns)) := by
  rw [xb_or, xb_or, xb_one (2 * ns) (by omega) b hb, xb_one (2 * ns + 1) (by omega) b hb, Bool.or_assoc]
  congr 1
  rw [← Bool.decide_or]
  exact decide_eq_decide.2 (by omega)
theorem op_sentry {S M : Nat → Nat → Int32} {t a b : Int32} (hA : yA S M t) (ht : t ≤ 900000) (ht0 : 0 ≤ t) : ∃ (tag : Nat) (v : Int32) (S' : Nat → Nat → Int32) (r : Int32) (M' : Nat → Nat → Int32), d_c_sentry a b S ∧ f_c_sentry a b S = (tag, v, S') ∧ d_m_sentry a b M ∧ f_m_sentry a b M = (r, M') ∧ yA S' M' (t + 60) ∧ (∀ c, 32 ≤ c → S' c = S c) ∧ (∀ c, c < 32 → M' c = M c) ∧
    ((tag = 0 ∧ M' 32 0 = 0 ∧ r = v) ∨ (tag = 1 ∧ M' 32 0 = 1) ∨ (tag = 2 ∧ M' 32 0 = 2)) := by
  have hA' := hA
  have tt : t ≤ t + 60 := by grind
  obtain ⟨g1, g2, dh⟩ := hbg hA
  obtain ⟨a1, a2, a3, a4, a5, a6, a7, a8, a9, a10, a11⟩ := hA
  obtain ⟨p1, p33, p34, p35, p5, p36, p37, p38, p39, p42, p44, p40, p43⟩ := a1
  obtain ⟨d1, d2, d3, d4, d6, d8, d12, d14a, d14b, d15, d16⟩ := a3
  obtain ⟨i5, i6, i7, i8, i10, i13, i14, i15⟩ := a4
  have mO : ∀ (x : Int32) c, c ≠ 32 → (xj_set (xj_set M 32 0 0) 32 0 x) c = M c := fun x c h => by rw [s_set, if_neg h, s_set, if_neg h]
  have m0 : ∀ x : Int32, (xj_set (xj_set M 32 0 0) 32 0 x) 32 0 = x := fun x => by rw [s_set, if_pos rfl, u_at, if_pos rfl]
  have f1 : ∀ x : Int32, d_m_fail x (xj_set M 32 0 0) ∧ True := fun x => ⟨trivial, trivial⟩
  have bad : ∀ (tag : Nat) (x : Int32), d_c_sentry a b S → f_c_sentry a b S = (tag, 0, S) → d_m_sentry a b M → f_m_sentry a b M = (0, xj_set (xj_set M 32 0 0) 32 0 x) → ((tag = 1 ∧ x = 1) ∨ (tag = 2 ∧ x = 2)) → ∃ (tag : Nat) (v : Int32) (S' : Nat → Nat → Int32) (r : Int32) (M' : Nat → Nat → Int32), d_c_sentry a b S ∧ f_c_sentry a b S = (tag, v, S') ∧ d_m_sentry a b M ∧ f_m_sentry a b M = (r, M') ∧ yA S' M' (t + 60) ∧ (∀ c, 32 ≤ c → S' c = S c) ∧ (∀ c, c < 32 → M' c = M c) ∧
    ((tag = 0 ∧ M' 32 0 = 0 ∧ r = v) ∨ (tag = 1 ∧ M' 32 0 = 1) ∨ (tag = 2 ∧ M' 32 0 = 2)) := by
    intro tag x h1 h2 h3 h4 h5
    refine ⟨tag, 0, S, 0, _, h1, h2, h3, h4, yA_code (yA_code hA' (Int32.le_refl _)) tt, fun _ _ => rfl, fun c hc => mO x c (by omega), ?_⟩
    rw [m0]
    rcases h5 with h | h
    · exact Or.inr (Or.inl h)
    · exact Or.inr (Or.inr h)
  have k5 := i5 (a).toNatClampNeg
  have may : r_p_mayHaveSentry S a b = if 1 ≤ a ∧ a < S 1 0 ∧ (S 2 (a).toNatClampNeg ≤ 1 ∨ (S 2 (a).toNatClampNeg = 2 ∧ b = 0)) then 1 else 0 := by
    unfold r_p_mayHaveSentry r_p_hasItem
    grind
  have dm : d_p_mayHaveSentry S a b := by
    unfold d_p_mayHaveSentry
    have z : d_p_hasItem S a := by
      unfold d_p_hasItem
      repeat' (first | with_reducible exact trivial | with_reducible assumption | with_reducible apply And.intro | intro _)
    by_cases q : r_p_hasItem S a = 0
    · exact ⟨z, fun _ => trivial, fun h => absurd q h⟩
    · have v : vp_in a 12 := by
        unfold r_p_hasItem at q
        exact v12 (by grind) (by grind)
      repeat' (first | with_reducible exact trivial | with_reducible assumption | with_reducible apply And.intro | intro _)
  by_cases q0 : S 14 1 = 0
  · have hb : ¬ r_l_hasBegun S ≠ 0 := fun h => h (g1.2 q0)
    have m15 : ¬ M 32 15 ≠ 0 := fun h => h (g2.2 q0)
    by_cases q16 : S 1 5 = 16
    · refine bad 1 1 ?_ ?_ ?_ ?_ (Or.inl ⟨rfl, rfl⟩)
      · unfold d_c_sentry
        exact ⟨dh, fun q => absurd q hb, fun _ => ⟨fun q => absurd q16 q, fun _ => trivial⟩⟩
      · unfold f_c_sentry
        rw [if_neg hb, if_neg (fun q => q q16)]
      · unfold d_m_sentry
        rw [p5]
        exact ⟨fun q => absurd q m15, fun _ => ⟨fun q => absurd q16 q, fun _ => f1 1⟩⟩
      · unfold f_m_sentry
        rw [if_neg m15, p5, if_neg (fun q => q q16)]
        rfl
    · have vs : vp_in (S 1 5) 16 := v16 d3 (by grind)
      obtain ⟨ns, hns, es⟩ := i_of16 d3 d4
      have n16 : ns < 16 := by
        rcases Nat.lt_or_ge ns 16 with z | z
        · exact z
        · have : ns = 16 := by omega
          subst this
          exact absurd es q16
      have cns : (S 1 5).toNatClampNeg = ns := by rw [es]; exact nI_clamp (by omega)
      have dM : d_m_sentry a b M := by
        unfold d_m_sentry
        rw [p5, p1]
        refine ⟨fun q => absurd q m15, fun _ => ⟨fun _ => ⟨fun _ => f1 2, fun z1 => ⟨fun z2 => ⟨v12 (by grind) (by grind), fun _ => ⟨fun _ => ⟨vs, vs, vs, vs, trivial⟩, fun _ => f1 2⟩, fun _ => ⟨fun _ => ⟨vs, vs, vs, vs, trivial⟩, fun _ => f1 2⟩⟩, fun _ => f1 2⟩⟩, fun q => absurd q16 q⟩⟩
      by_cases good : 1 ≤ a ∧ a < S 1 0 ∧ (S 2 (a).toNatClampNeg ≤ 1 ∨ (S 2 (a).toNatClampNeg = 2 ∧ b = 0))
      · have W1 : r_p_mayHaveSentry S a b = 1 := by rw [may, if_pos good]
        obtain ⟨w1, w2, w3⟩ := good
        have va : vp_in a 12 := v12 (by grind) (by grind)
        obtain ⟨Sx, hSx⟩ : ∃ Sx, Sx = xj_set (xj_set (xj_set S 6 (S 1 5).toNatClampNeg a) 7 (S 1 5).toNatClampNeg (b &&& 1)) 11 (S 1 5).toNatClampNeg (-1) := ⟨_, rfl⟩
        obtain ⟨y, hy⟩ : ∃ y, y = (S 5 (a).toNatClampNeg ||| ((1 : Int32) <<< (nI (2 * ns) &&& 31))) ||| ((1 : Int32) <<< (nI (2 * ns + 1) &&& 31)) := ⟨_, rfl⟩
        obtain ⟨Sz, hSz⟩ : ∃ Sz, Sz = xj_set (xj_set (xj_set Sx 5 (a).toNatClampNeg (S 5 (a).toNatClampNeg ||| ((1 : Int32) <<< (nI (2 * ns) &&& 31)))) 5 (a).toNatClampNeg y) 1 5 (S 1 5 + 1) := ⟨_, rfl⟩
        have x5 : Sx 5 = S 5 := by rw [hSx]; simp [s_set]
        have x1 : Sx 1 = S 1 := by rw [hSx]; simp [s_set]
        have b0 : ∀ X : Nat → Nat → Int32, r_p_partBit X (nI ns) 0 = (1 : Int32) <<< (nI (2 * ns) &&& 31) := by
          intro X
          unfold r_p_partBit
          have e := pk_2 ns 0
          rw [nI_0, Nat.add_zero] at e
          rw [e]
        have b1 : ∀ X : Nat → Nat → Int32, r_p_partBit X (nI ns) (0 + 1) = (1 : Int32) <<< (nI (2 * ns + 1) &&& 31) := by
          intro X
          unfold r_p_partBit
          have e := pk_2 ns 1
          exact congrArg (fun z => (1 : Int32) <<< (z &&& 31)) e
        have t0 : ¬ (2 : Int32) ≤ 0 := by decide
        have t1 : ¬ (2 : Int32) ≤ 0 + 1 := by decide
        have t2 : (2 : Int32) ≤ 0 + 1 + 1 := by decide
        have fA : f_p_addSentry a b S = (S 1 5, Sz) ∧ d_p_addSentry a b S := by
          unfold f_p_addSentry d_p_addSentry
          rw [← hSx, as_eq, as_d, if_neg t0, as_eq, as_d, if_neg t1, as_eq, as_d, if_pos t2, es, b0, b1]
          have z5 : (xj_set Sx 5 (a).toNatClampNeg (Sx 5 (a).toNatClampNeg ||| ((1 : Int32) <<< (nI (2 * ns) &&& 31)))) 5 (a).toNatClampNeg = S 5 (a).toNatClampNeg ||| ((1 : Int32) <<< (nI (2 * ns) &&& 31)) := by
            rw [s_set, if_pos rfl, u_at, if_pos rfl, x5]
          rw [z5, x5, ← hy]
          refine ⟨?_, ?_⟩
          · rw [hSz, es]
            congr 2
            rw [s_set, if_neg (by decide), s_set, if_neg (by decide), x1, es]
          · rw [es] at vs
            exact ⟨vs, vs, vs, fun q => absurd q t0, fun _ => ⟨va, trivial, va, fun q => absurd q t1, fun _ => ⟨va, trivial, va, fun _ => trivial, fun q => absurd t2 q⟩⟩⟩
        have fC : f_c_sentry a b S = (0, S 1 5, Sz) := by
          unfold f_c_sentry
          rw [if_neg hb, if_pos q16, W1, if_pos (by decide), fA.1]
        have dC : d_c_sentry a b S := by
          unfold d_c_sentry
          rw [fA.1]
          exact ⟨dh, fun q => absurd q hb, fun _ => ⟨fun _ => ⟨dm, fun _ => ⟨fA.2, trivial⟩, fun _ => trivial⟩, fun q => absurd q16 q⟩⟩
        have e1 : S 1 5 + 1 - 1 = S 1 5 := by grind
        have fM : f_m_sentry a b M = (S 1 5, xj_set (xj_set (xj_set (xj_set (xj_set (xj_set M 32 0 0) 36 (S 1 5).toNatClampNeg a) 37 (S 1 5).toNatClampNeg (b &&& 1)) 38 (S 1 5).toNatClampNeg 0) 41 (S 1 5).toNatClampNeg (0 &&& 1)) 32 5 (S 1 5 + 1)) := by
          unfold f_m_sentry
          rw [if_neg m15, p5, p1, p33, if_pos q16, if_neg (by grind), if_pos w2, e1]
          by_cases z : b = 0
          · rw [if_pos z, if_pos (by grind)]
          · rw [if_neg z, if_pos (by grind)]
        have zO : ∀ c, c ≠ 1 → c ≠ 5 → c ≠ 6 → c ≠ 7 → c ≠ 11 → Sz c = S c := fun c h1 h2 h3 h4 h5 => by rw [hSz, hSx]; simp [s_set, h1, h2, h3, h4, h5]
        have z1 : Sz 1 = upd (S 1) 5 (S 1 5 + 1) := by rw [hSz, hSx]; simp [s_set]
        have z5 : Sz 5 = upd (S 5) (a).toNatClampNeg y := by
          rw [hSz]
          simp only [s_set]
          simp
          rw [x5]
          funext j
          simp only [u_at]
          split <;> rfl
        have z6 : Sz 6 = upd (S 6) ns a := by rw [hSz, hSx, cns]; simp [s_set]
        have z7 : Sz 7 = upd (S 7) ns (b &&& 1) := by rw [hSz, hSx, cns]; simp [s_set]
        have z11 : Sz 11 = upd (S 11) ns (-1) := by rw [hSz, hSx, cns]; simp [s_set]
        have z15 : Sz 1 5 = S 1 5 + 1 := by rw [z1, u_at, if_pos rfl]
        have z10 : Sz 1 0 = S 1 0 := by rw [z1, u_at, if_neg (by decide)]
        have c15 : (S 1 5 + 1).toNatClampNeg = ns + 1 := by rw [ix_1 d3 (by grind : S 1 5 < 17), cns]
        have ne : ∀ u : Int32, 0 ≤ u → u < S 1 5 → ¬ (u).toNatClampNeg = ns := fun u u0 u1 => by have := ix_lt u0 u1; omega
        have r38 : upd (M 38) ns 0 = S 8 := by
          rw [p38]
          funext j
          rw [u_at]
          split
          · rename_i e; rw [e, i15 ns (by omega)]
          · rfl
        obtain ⟨Mz, hMz⟩ : ∃ Mz, Mz = xj_set (xj_set (xj_set (xj_set (xj_set (xj_set M 32 0 0) 36 (S 1 5).toNatClampNeg a) 37 (S 1 5).toNatClampNeg (b &&& 1)) 38 (S 1 5).toNatClampNeg 0) 41 (S 1 5).toNatClampNeg (0 &&& 1)) 32 5 (S 1 5 + 1) := ⟨_, rfl⟩
        rw [← hMz] at fM
        have nO : ∀ c, c ≠ 32 → c ≠ 36 → c ≠ 37 → c ≠ 38 → c ≠ 41 → Mz c = M c := fun c h1 h2 h3 h4 h5 => by rw [hMz]; simp [s_set, h1, h2, h3, h4, h5]
        have nI32 : ∀ i, i ≠ 0 → i ≠ 5 → Mz 32 i = M 32 i := fun i h1 h2 => by rw [hMz]; simp [s_set, u_at, h1, h2]
        have n325 : Mz 32 5 = S 1 5 + 1 := by rw [hMz]; simp [s_set, u_at]
        have n320 : Mz 32 0 = 0 := by rw [hMz]; simp [s_set, u_at]
        have n36 : Mz 36 = upd (M 36) ns a := by rw [hMz, cns]; simp [s_set]
        have n37 : Mz 37 = upd (M 37) ns (b &&& 1) := by rw [hMz, cns]; simp [s_set]
        have n38 : Mz 38 = upd (M 38) ns 0 := by rw [hMz, cns]; simp [s_set]
        have n41 : Mz 41 = upd (M 41) ns (0 &&& 1) := by rw [hMz, cns]; simp [s_set]
        refine ⟨0, _, Sz, _, Mz, dC, fC, dM, fM, ?_, fun k hk => zO k (by omega) (by omega) (by omega) (by omega) (by omega), fun k hk => nO k (by omega) (by omega) (by omega) (by omega) (by omega), Or.inl ⟨rfl, n320, rfl⟩⟩
        refine yA_plan hA' tt q0 (fun k h1 h2 => zO k (by omega) (by omega) (by omega) (by omega) (by omega)) (fun k h1 h2 => nO k (by omega) (by omega) (by omega) (by omega) (by omega)) (nI32 17 (by decide) (by decide)) (nI32 24 (by decide) (by decide)) (nI32 15 (by decide) (by decide)) ?_ ?_ (by rw [z10]; exact d1) (by rw [z10]; exact d2) (by rw [z15]; grind) (by rw [z15]; grind) (fun s => ?_) (by rw [zO 8 (by decide) (by decide) (by decide) (by decide) (by decide)]; exact d8) (by rw [zO 12 (by decide) (by decide) (by decide) (by decide) (by decide)]; exact d12) (by rw [zO 2 (by decide) (by decide) (by decide) (by decide) (by decide)]; exact a11)
        · refine ⟨?_, ?_, ?_, ?_, ?_, ?_, ?_, ?_, ?_, ?_, ?_, ?_, fun u u0 u1 => ?_⟩
          · rw [nI32 1 (by decide) (by decide), z10]; exact p1
          · rw [nO 33 (by decide) (by decide) (by decide) (by decide) (by decide), zO 2 (by decide) (by decide) (by decide) (by decide) (by decide)]; exact p33
          · rw [nO 34 (by decide) (by decide) (by decide) (by decide) (by decide), zO 3 (by decide) (by decide) (by decide) (by decide) (by decide)]; exact p34
          · rw [nO 35 (by decide) (by decide) (by decide) (by decide) (by decide), zO 4 (by decide) (by decide) (by decide) (by decide) (by decide)]; exact p35
          · rw [n325, z15]
          · rw [n36, z6, p36]
          · rw [n37, z7, p37]
          · rw [n38, r38, zO 8 (by decide) (by decide) (by decide) (by decide) (by decide)]
          · rw [nO 39 (by decide) (by decide) (by decide) (by decide) (by decide), zO 9 (by decide) (by decide) (by decide) (by decide) (by decide)]; exact p39
          · rw [nO 42 (by decide) (by decide) (by decide) (by decide) (by decide), zO 12 (by decide) (by decide) (by decide) (by decide) (by decide)]; exact p42
          · rw [nO 44 (by decide) (by decide) (by decide) (by decide) (by decide), zO 13 (by decide) (by decide) (by decide) (by decide) (by decide)]; exact p44
          · rw [nO 40 (by decide) (by decide) (by decide) (by decide) (by decide), zO 9 (by decide) (by decide) (by decide) (by decide) (by decide), zO 10 (by decide) (by decide) (by decide) (by decide) (by decide)]; exact p40
          · rw [z15] at u1
            rw [n41, z11, nO 43 (by decide) (by decide) (by decide) (by decide) (by decide), u_at, u_at]
            by_cases y : u = S 1 5
            · rw [y, cns, if_pos rfl, if_pos rfl]
              exact Or.inl ⟨by decide, rfl⟩
            · rw [if_neg (ne u u0 (by grind)), if_neg (ne u u0 (by grind))]
              exact p43 u u0 (by grind)
        · refine ⟨?_, ?_, ?_, ?_, fun u u0 u1 => ?_, ?_, fun i bb hi hbb => ?_, fun s hs => ?_⟩
          · rw [zO 2 (by decide) (by decide) (by decide) (by decide) (by decide)]; exact i5
          · rw [zO 3 (by decide) (by decide) (by decide) (by decide) (by decide)]; exact i6
          · rw [zO 4 (by decide) (by decide) (by decide) (by decide) (by decide)]; exact i7
          · rw [zO 3 (by decide) (by decide) (by decide) (by decide) (by decide)]; exact i8
          · rw [z15] at u1
            rw [z6, u_at]
            split
            · exact w1
            · rename_i e
              exact i10 u u0 (by
                by_cases y : u = S 1 5
                · exact absurd (by rw [y]; exact cns) e
                · grind)
          · rw [zO 9 (by decide) (by decide) (by decide) (by decide) (by decide), zO 10 (by decide) (by decide) (by decide) (by decide) (by decide)]; exact i13
          · have old := i14 i bb hi hbb
            rw [cns] at old
            obtain ⟨na, hna, ena⟩ := i_of (by grind : 0 ≤ a)
            have cna : (a).toNatClampNeg = na := by rw [ena]; exact nI_clamp hna
            rw [z5, z6, z15, c15, u_at, u_at, cna]
            by_cases yi : i = na
            · subst yi
              rw [if_pos rfl, hy, bit2 n16 hbb, cna, old, ← Bool.decide_or]
              apply decide_eq_decide.2
              by_cases yb : bb / 2 = ns
              · rw [if_pos yb]
                constructor
                · intro _
                  exact ⟨by omega, ena⟩
                · intro _
                  exact Or.inr yb
              · rw [if_neg yb]
                constructor
                · rintro (h | h)
                  · exact ⟨by omega, h.2⟩
                  · exact absurd h yb
                · rintro ⟨h1, h2⟩
                  exact Or.inl ⟨by omega, h2⟩
            · rw [if_neg yi, old]
              apply decide_eq_decide.2
              by_cases yb : bb / 2 = ns
              · rw [if_pos yb]
                constructor
                · intro h
                  exact absurd h.1 (by omega)
                · rintro ⟨_, h2⟩
                  rw [ena] at h2
                  exact absurd ((nI_eq hna (by omega)).1 h2).symm yi
              · rw [if_neg yb]
                constructor
                · rintro ⟨h1, h2⟩
                  exact ⟨by omega, h2⟩
                · rintro ⟨h1, h2⟩
                  exact ⟨by omega, h2⟩
          · rw [z15, c15] at hs
            rw [zO 8 (by decide) (by decide) (by decide) (by decide) (by decide)]
            exact i15 s (by omega)
        · rw [z6, u_at]
          split
          · exact ⟨by grind, by grind⟩
          · exact d6 s
      · have W1 : r_p_mayHaveSentry S a b = 0 := by rw [may, if_neg good]
        refine bad 2 2 ?_ ?_ dM ?_ (Or.inr ⟨rfl, rfl⟩)
        · unfold d_c_sentry
          rw [W1]
          exact ⟨dh, fun q => absurd q hb, fun _ => ⟨fun _ => ⟨dm, fun q => absurd rfl q, fun _ => trivial⟩, fun q => absurd q16 q⟩⟩
        · unfold f_c_sentry
          rw [if_neg hb, if_pos q16, W1, if_neg (fun q => q rfl)]
        · unfold f_m_sentry f_m_fail
          rw [if_neg m15, p5, p1, p33, if_pos q16]
          grind
  · have hb : r_l_hasBegun S ≠ 0 := fun h => q0 (g1.1 h)
    have m15 : M 32 15 ≠ 0 := fun h => q0 (g2.1 h)
    refine bad 1 1 ?_ ?_ ?_ ?_ (Or.inl ⟨rfl, rfl⟩)
    · unfold d_c_sentry
      exact ⟨dh, fun _ => trivial, fun q => absurd hb q⟩
    · unfold f_c_sentry
      rw [if_pos hb]
    · unfold d_m_sentry
      exact ⟨fun _ => f1 1, fun q => absurd m15 q⟩
    · unfold f_m_sentry
      rw [if_pos m15]
      rfl
