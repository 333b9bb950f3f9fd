/-! on -/
theorem op_on {S M : Nat → Nat → Int32} {t a b c : Int32} (hA : yA S M t) (ht : t ≤ 900000) (ht0 : 0 ≤ t) : ∃ (tag : Nat) (v : Int32) (S' : Nat → Nat → Int32) (r : Int32) (M' : Nat → Nat → Int32), d_c_on a b c S ∧ f_c_on a b c S = (tag, v, S') ∧ d_m_on a b c M ∧ f_m_on a b c M = (r, M') ∧ yA S' M' (t + 60) ∧ (∀ c, 32 ≤ c → S' c = S c) ∧ (∀ c, c < 32 → M' c = M c) ∧
    ((tag = 0 ∧ M' 32 0 = 0 ∧ r = v) ∨ (tag = 1 ∧ M' 32 0 = 1) ∨ (tag = 2 ∧ M' 32 0 = 2)) := by
  have hA' := hA
  have tt : t ≤ t + 60 := by grind
  obtain ⟨g1, g2, dh⟩ := hbg hA
  obtain ⟨a1, a2, a3, a4, a5, a6, a7, a8, a9, a10, a11⟩ := hA
  obtain ⟨p1, p33, p34, p35, p5, p36, p37, p38, p39, p42, p44, p40, p43⟩ := a1
  obtain ⟨d1, d2, d3, d4, d6, d8, d12, d14a, d14b, d15, d16⟩ := a3
  obtain ⟨i5, i6, i7, i8, i10, i13, i14, i15⟩ := a4
  have mO : ∀ (x : Int32) c, c ≠ 32 → (xj_set (xj_set M 32 0 0) 32 0 x) c = M c := fun x c h => by rw [s_set, if_neg h, s_set, if_neg h]
  have m0 : ∀ x : Int32, (xj_set (xj_set M 32 0 0) 32 0 x) 32 0 = x := fun x => by rw [s_set, if_pos rfl, u_at, if_pos rfl]
  have f1 : ∀ x : Int32, d_m_fail x (xj_set M 32 0 0) ∧ True := fun x => ⟨trivial, trivial⟩
  have bad : ∀ (tag : Nat) (x : Int32), d_c_on a b c S → f_c_on a b c S = (tag, 0, S) → d_m_on a b c M → f_m_on a b c M = (0, xj_set (xj_set M 32 0 0) 32 0 x) → ((tag = 1 ∧ x = 1) ∨ (tag = 2 ∧ x = 2)) → ∃ (tag : Nat) (v : Int32) (S' : Nat → Nat → Int32) (r : Int32) (M' : Nat → Nat → Int32), d_c_on a b c S ∧ f_c_on a b c S = (tag, v, S') ∧ d_m_on a b c M ∧ f_m_on a b c M = (r, M') ∧ yA S' M' (t + 60) ∧ (∀ c, 32 ≤ c → S' c = S c) ∧ (∀ c, c < 32 → M' c = M c) ∧
    ((tag = 0 ∧ M' 32 0 = 0 ∧ r = v) ∨ (tag = 1 ∧ M' 32 0 = 1) ∨ (tag = 2 ∧ M' 32 0 = 2)) := by
    intro tag x h1 h2 h3 h4 h5
    refine ⟨tag, 0, S, 0, _, h1, h2, h3, h4, yA_code (yA_code hA' (Int32.le_refl _)) tt, fun _ _ => rfl, fun c hc => mO x c (by omega), ?_⟩
    rw [m0]
    rcases h5 with h | h
    · exact Or.inr (Or.inl h)
    · exact Or.inr (Or.inr h)
  have ds : d_p_hasSentry S a := by
    unfold d_p_hasSentry
    repeat' (first | with_reducible exact trivial | with_reducible assumption | with_reducible apply And.intro | intro _)
  have dsm : d_m_isSentry (xj_set M 32 0 0) a := by
    unfold d_m_isSentry
    repeat' (first | with_reducible exact trivial | with_reducible assumption | with_reducible apply And.intro | intro _)
  have m5 : (xj_set M 32 0 0) 32 5 = S 1 5 := by rw [s_set, if_pos rfl, u_at, if_neg (by decide)]; exact p5
  have sn : r_p_hasSentry S a = if 0 ≤ a ∧ a < S 1 5 then 1 else 0 := by
    unfold r_p_hasSentry
    grind
  have sm : r_m_isSentry (xj_set M 32 0 0) a = if 0 ≤ a ∧ a < S 1 5 then 1 else 0 := by
    unfold r_m_isSentry
    rw [m5]
    grind
  have al : r_p_hasAllParts S a = if 0 ≤ a ∧ a < S 1 5 ∧ S 8 (a).toNatClampNeg = 2 then 1 else 0 := by
    unfold r_p_hasAllParts
    rw [sn]
    grind
  have k8 := d8 (a).toNatClampNeg
  have da : d_p_hasAllParts S a := by
    unfold d_p_hasAllParts
    by_cases q : r_p_hasSentry S a = 0
    · exact ⟨ds, fun _ => trivial, fun h => absurd q h⟩
    · have v : vp_in a 16 := by
        rw [sn] at q
        exact v16 (by grind) (by grind)
      repeat' (first | with_reducible exact trivial | with_reducible assumption | with_reducible apply And.intro | intro _)
  by_cases q0 : S 14 1 = 0
  · have hb : ¬ r_l_hasBegun S ≠ 0 := fun h => h (g1.2 q0)
    have m15 : ¬ M 32 15 ≠ 0 := fun h => h (g2.2 q0)
    by_cases qs : 0 ≤ a ∧ a < S 1 5
    · have W1 : r_p_hasSentry S a = 1 := by rw [sn, if_pos qs]
      have W2 : r_m_isSentry (xj_set M 32 0 0) a = 1 := by rw [sm, if_pos qs]
      have va : vp_in a 16 := v16 qs.1 (by grind)
      have o6 := d6 (a).toNatClampNeg
      have vo : vp_in (S 6 (a).toNatClampNeg) 12 := v12 o6.1 o6.2
      by_cases q2 : S 8 (a).toNatClampNeg = 2
      · have W3 : r_p_hasAllParts S a = 1 := by rw [al, if_pos ⟨qs.1, qs.2, q2⟩]
        refine bad 1 1 ?_ ?_ ?_ ?_ (Or.inl ⟨rfl, rfl⟩)
        · unfold d_c_on
          rw [W3]
          exact ⟨dh, fun q => absurd q hb, fun _ => ⟨da, fun q => absurd q (by decide), fun _ => trivial⟩⟩
        · unfold f_c_on
          rw [if_neg hb, W3, if_neg (by decide)]
        · unfold d_m_on
          rw [W2, p38]
          exact ⟨fun q => absurd q m15, fun _ => ⟨dsm, fun q => absurd q (by decide), fun _ => ⟨va, fun q => absurd q2 q, fun _ => f1 1⟩⟩⟩
        · unfold f_m_on
          rw [if_neg m15, W2, p38, if_neg (by decide), if_neg (fun q => q q2)]
          rfl
      · have W3 : r_p_hasAllParts S a = 0 := by rw [al, if_neg (fun q => q2 q.2.2)]
        have vp : vp_in (a * 2 + S 8 (a).toNatClampNeg) 32 := v32 (by grind) (by grind)
        have pe : 2 * a + S 8 (a).toNatClampNeg = a * 2 + S 8 (a).toNatClampNeg := by grind
        have dh2 : d_p_hasItem S b := by
          unfold d_p_hasItem
          repeat' (first | with_reducible exact trivial | with_reducible assumption | with_reducible apply And.intro | intro _)
        have ih : r_p_hasItem S b = if 0 ≤ b ∧ b < S 1 0 then 1 else 0 := by
          unfold r_p_hasItem
          grind
        have dv : d_c_isVariable S (b - 100) := by
          unfold d_c_isVariable
          repeat' (first | with_reducible exact trivial | with_reducible assumption | with_reducible apply And.intro | intro _)
        have iv : r_c_isVariable S (b - 100) = 0 ∨ r_c_isVariable S (b - 100) = 1 := by
          unfold r_c_isVariable
          grind
        have dy : d_p_mayHear S a b c := by
          unfold d_p_mayHear
          rw [ih]
          refine ⟨fun _ => ⟨dh2, fun _ => trivial, fun z => ?_⟩, fun _ => ⟨dv, iv⟩⟩
          have vb : vp_in b 12 := v12 (by grind) (by grind)
          repeat' (first | with_reducible exact trivial | with_reducible assumption | with_reducible apply And.intro | intro _)
        have hy : r_p_mayHear S a b c = if (0 ≤ b ∧ b < S 1 0 ∧ b ≠ S 6 (a).toNatClampNeg ∧ S 3 (b).toNatClampNeg = S 3 (S 6 (a).toNatClampNeg).toNatClampNeg ∧ 0 ≤ c ∧ c ≤ 9) ∨ (100 ≤ b ∧ b ≤ 103) then 1 else 0 := by
          unfold r_p_mayHear r_c_isVariable
          rw [ih]
          grind
        have dA : d_p_addPart a b c S := ⟨va, vp, fun _ => ⟨vp, va, va, va, trivial⟩, fun _ => ⟨vp, va, va, va, trivial⟩⟩
        have dC : d_c_on a b c S := by
          unfold d_c_on
          refine ⟨dh, fun q => absurd q hb, fun _ => ⟨da, fun _ => ⟨ds, fun _ => trivial, fun _ => ⟨dy, fun _ => ⟨dA, ?_⟩, fun _ => trivial⟩⟩, fun _ => trivial⟩⟩
          split
          trivial
        have tr : ∀ y : Int32, ¬ (0 ≤ b ∧ b < S 1 0) → (r_m_within (xj_set M 32 0 0) (b - 100) 3 ≠ 0 ↔ (100 ≤ b ∧ b ≤ 103)) := by
          intro _ _
          rw [wi]
          grind
        have dM : d_m_on a b c M := by
          unfold d_m_on
          rw [W2, p38, p36, p1, pe]
          have ok : vp_in a 16 ∧ (vp_in (a * 2 + S 8 (a).toNatClampNeg) 32 ∧ (vp_in (a * 2 + S 8 (a).toNatClampNeg) 32 ∧ (vp_in a 16 ∧ (vp_in a 16 ∧ (vp_in a 16 ∧ True))))) := ⟨va, vp, vp, va, va, va, trivial⟩
          refine ⟨fun q => absurd q m15, fun _ => ⟨dsm, fun q => absurd q (by decide), fun _ => ⟨va, fun _ => ⟨dsm, fun _ => ⟨fun _ => ⟨di _ _ _, fun _ => ok, fun _ => f1 2⟩, fun n0 => ⟨fun _ => ⟨di _ _ _, fun _ => ok, fun _ => f1 2⟩, fun n1 => ?_⟩⟩, fun q => absurd (by decide) q⟩, fun q => absurd q2 q⟩⟩⟩
          have vb : vp_in b 12 := v12 (by grind) (by grind)
          have d9 := di (xj_set M 32 0 0) c 9
          exact ⟨va, fun _ => f1 2, fun _ => ⟨vb, va, vo, fun _ => f1 2, fun _ => ⟨d9, fun _ => ok, fun _ => f1 2⟩⟩⟩
        by_cases good : (0 ≤ b ∧ b < S 1 0 ∧ b ≠ S 6 (a).toNatClampNeg ∧ S 3 (b).toNatClampNeg = S 3 (S 6 (a).toNatClampNeg).toNatClampNeg ∧ 0 ≤ c ∧ c ≤ 9) ∨ (100 ≤ b ∧ b ≤ 103)
        · have W4 : r_p_mayHear S a b c = 1 := by rw [hy, if_pos good]
          obtain ⟨pl, hpl⟩ : ∃ pl, pl = (a * 2 + S 8 (a).toNatClampNeg).toNatClampNeg := ⟨_, rfl⟩
          obtain ⟨w, hw⟩ : ∃ w, w = if b < 100 then c else -1 := ⟨_, rfl⟩
          obtain ⟨Sz, hSz⟩ : ∃ Sz, Sz = xj_set (xj_set (xj_set S 9 pl b) 10 pl w) 8 (a).toNatClampNeg (S 8 (a).toNatClampNeg + 1) := ⟨_, rfl⟩
          have z8 : Sz 8 = upd (S 8) (a).toNatClampNeg (S 8 (a).toNatClampNeg + 1) := by rw [hSz]; simp [s_set]
          have fA : f_p_addPart a b c S = (S 8 (a).toNatClampNeg + 1, Sz) := by
            have e : S 8 (a).toNatClampNeg + 1 = Sz 8 (a).toNatClampNeg := by rw [z8, u_at, if_pos rfl]
            unfold f_p_addPart
            rw [← hpl]
            by_cases y : b < 100
            · rw [if_pos y] at hw
              rw [if_pos y, ← hw, ← hSz, ← e]
            · rw [if_neg y] at hw
              rw [if_neg y, ← hw, ← hSz, ← e]
          have fC : f_c_on a b c S = (0, S 8 (a).toNatClampNeg + 1, Sz) := by
            unfold f_c_on
            rw [if_neg hb, W3, if_pos rfl, W1, if_neg (by decide), W4, if_pos (by decide), fA]
          obtain ⟨Mz, hMz⟩ : ∃ Mz, Mz = xj_set (xj_set (xj_set (xj_set M 32 0 0) 39 pl b) 40 pl c) 38 (a).toNatClampNeg (S 8 (a).toNatClampNeg + 1) := ⟨_, rfl⟩
          have n38 : Mz 38 = upd (M 38) (a).toNatClampNeg (S 8 (a).toNatClampNeg + 1) := by rw [hMz]; simp [s_set]
          have e38 : Mz 38 (a).toNatClampNeg = S 8 (a).toNatClampNeg + 1 := by rw [n38, u_at, if_pos rfl]
          have fM : f_m_on a b c M = (S 8 (a).toNatClampNeg + 1, Mz) := by
            unfold f_m_on
            rw [if_neg m15, W2, p38, p36, p34, p1, pe, ← hpl, ← hMz, e38, if_neg (by decide), if_pos q2, if_pos (by decide)]
            rcases good with ⟨w1, w2, w3, w4, w5, w6⟩ | ⟨w1, w2⟩
            · have W9 : r_m_within (xj_set M 32 0 0) c 9 = 1 := by rw [wi, if_pos ⟨w5, w6⟩]
              rw [if_neg (by grind), if_neg (by grind), if_neg w3, if_neg (fun q => q w4), W9, if_pos (by decide)]
            · have W9 : r_m_within (xj_set M 32 0 0) (b - 100) 3 = 1 := by rw [wi, if_pos ⟨by grind, by grind⟩]
              rw [if_neg (by grind), if_pos (by grind), W9, if_pos (by decide)]
          have zO : ∀ k, k ≠ 8 → k ≠ 9 → k ≠ 10 → Sz k = S k := fun k h1 h2 h3 => by rw [hSz]; simp [s_set, h1, h2, h3]
          have z9 : Sz 9 = upd (S 9) pl b := by rw [hSz]; simp [s_set]
          have z10 : Sz 10 = upd (S 10) pl w := by rw [hSz]; simp [s_set]
          have nO : ∀ k, k ≠ 32 → k ≠ 38 → k ≠ 39 → k ≠ 40 → Mz k = M k := fun k h1 h2 h3 h4 => by rw [hMz]; simp [s_set, h1, h2, h3, h4]
          have n32 : ∀ i, i ≠ 0 → Mz 32 i = M 32 i := fun i h => by rw [hMz]; simp [s_set, u_at, h]
          have n320 : Mz 32 0 = 0 := by rw [hMz]; simp [s_set, u_at]
          have n39 : Mz 39 = upd (M 39) pl b := by rw [hMz]; simp [s_set]
          have n40 : Mz 40 = upd (M 40) pl c := by rw [hMz]; simp [s_set]
          refine ⟨0, _, Sz, _, Mz, dC, fC, dM, fM, ?_, fun k hk => zO k (by omega) (by omega) (by omega), fun k hk => nO k (by omega) (by omega) (by omega) (by omega), Or.inl ⟨rfl, n320, rfl⟩⟩
          refine yA_plan hA' tt q0 (fun k h1 h2 => zO k (by omega) (by omega) (by omega)) (fun k h1 h2 => nO k (by omega) (by omega) (by omega) (by omega)) (n32 17 (by decide)) (n32 24 (by decide)) (n32 15 (by decide)) ?_ ?_ (by rw [zO 1 (by decide) (by decide) (by decide)]; exact d1) (by rw [zO 1 (by decide) (by decide) (by decide)]; exact d2) (by rw [zO 1 (by decide) (by decide) (by decide)]; exact d3) (by rw [zO 1 (by decide) (by decide) (by decide)]; exact d4) (by rw [zO 6 (by decide) (by decide) (by decide)]; exact d6) (fun s => ?_) (by rw [zO 12 (by decide) (by decide) (by decide)]; exact d12) (by rw [zO 2 (by decide) (by decide) (by decide)]; exact a11)
          · refine ⟨?_, ?_, ?_, ?_, ?_, ?_, ?_, ?_, ?_, ?_, ?_, fun k hk => ?_, ?_⟩
            · rw [n32 1 (by decide), zO 1 (by decide) (by decide) (by decide)]; exact p1
            · rw [nO 33 (by decide) (by decide) (by decide) (by decide), zO 2 (by decide) (by decide) (by decide)]; exact p33
            · rw [nO 34 (by decide) (by decide) (by decide) (by decide), zO 3 (by decide) (by decide) (by decide)]; exact p34
            · rw [nO 35 (by decide) (by decide) (by decide) (by decide), zO 4 (by decide) (by decide) (by decide)]; exact p35
            · rw [n32 5 (by decide), zO 1 (by decide) (by decide) (by decide)]; exact p5
            · rw [nO 36 (by decide) (by decide) (by decide) (by decide), zO 6 (by decide) (by decide) (by decide)]; exact p36
            · rw [nO 37 (by decide) (by decide) (by decide) (by decide), zO 7 (by decide) (by decide) (by decide)]; exact p37
            · rw [n38, z8, p38]
            · rw [n39, z9, p39]
            · rw [nO 42 (by decide) (by decide) (by decide) (by decide), zO 12 (by decide) (by decide) (by decide)]; exact p42
            · rw [nO 44 (by decide) (by decide) (by decide) (by decide), zO 13 (by decide) (by decide) (by decide)]; exact p44
            · rw [z9, u_at] at hk
              rw [n40, z10, u_at, u_at]
              by_cases y : k = pl
              · rw [if_pos y] at hk
                rw [if_pos y, if_pos y, hw, if_pos hk]
              · rw [if_neg y] at hk
                rw [if_neg y, if_neg y]
                exact p40 k hk
            · rw [nO 41 (by decide) (by decide) (by decide) (by decide), nO 43 (by decide) (by decide) (by decide) (by decide), zO 1 (by decide) (by decide) (by decide), zO 11 (by decide) (by decide) (by decide)]; exact p43
          · refine ⟨?_, ?_, ?_, ?_, ?_, fun k hk => ?_, ?_, fun s hs => ?_⟩
            · rw [zO 2 (by decide) (by decide) (by decide)]; exact i5
            · rw [zO 3 (by decide) (by decide) (by decide)]; exact i6
            · rw [zO 4 (by decide) (by decide) (by decide)]; exact i7
            · rw [zO 3 (by decide) (by decide) (by decide)]; exact i8
            · rw [zO 1 (by decide) (by decide) (by decide), zO 6 (by decide) (by decide) (by decide)]; exact i10
            · rw [z9, u_at] at hk
              rw [z10, u_at]
              by_cases y : k = pl
              · rw [if_pos y] at hk
                rw [if_pos y, hw, if_neg (by grind)]
              · rw [if_neg y] at hk
                rw [if_neg y]
                exact i13 k hk
            · rw [zO 1 (by decide) (by decide) (by decide), zO 5 (by decide) (by decide) (by decide), zO 6 (by decide) (by decide) (by decide)]; exact i14
            · rw [zO 1 (by decide) (by decide) (by decide)] at hs
              rw [z8, u_at, if_neg (by have := ix_lt qs.1 qs.2; omega)]
              exact i15 s hs
          · rw [z8, u_at]
            split
            · grind
            · exact d8 s
        · have W4 : r_p_mayHear S a b c = 0 := by rw [hy, if_neg good]
          refine bad 2 2 dC ?_ dM ?_ (Or.inr ⟨rfl, rfl⟩)
          · unfold f_c_on
            rw [if_neg hb, W3, if_pos rfl, W1, if_neg (by decide), W4, if_neg (fun q => q rfl)]
          · have t3 := tr 0
            unfold f_m_on f_m_fail
            rw [if_neg m15, W2, p38, p36, p34, p1, if_neg (by decide), if_pos q2, if_pos (by decide), wi, wi]
            grind
    · have W1 : r_p_hasSentry S a = 0 := by rw [sn, if_neg qs]
      have W2 : r_m_isSentry (xj_set M 32 0 0) a = 0 := by rw [sm, if_neg qs]
      have W3 : r_p_hasAllParts S a = 0 := by rw [al, if_neg (fun q => qs ⟨q.1, q.2.1⟩)]
      refine bad 2 2 ?_ ?_ ?_ ?_ (Or.inr ⟨rfl, rfl⟩)
      · unfold d_c_on
        rw [W1]
        exact ⟨dh, fun q => absurd q hb, fun _ => ⟨da, fun _ => ⟨ds, fun _ => trivial, fun q => absurd rfl q⟩, fun _ => trivial⟩⟩
      · unfold f_c_on
        rw [if_neg hb, W3, if_pos rfl, W1, if_pos rfl]
      · unfold d_m_on
        rw [W2]
        exact ⟨fun q => absurd q m15, fun _ => ⟨dsm, fun _ => ⟨dsm, fun q => absurd rfl q, fun _ => f1 2⟩, fun q => absurd rfl q⟩⟩
      · unfold f_m_on
        rw [if_neg m15, W2, if_pos rfl, if_neg (fun q => q rfl)]
        rfl
  · have hb : r_l_hasBegun S ≠ 0 := fun h => q0 (g1.1 h)
    have m15 : M 32 15 ≠ 0 := fun h => q0 (g2.1 h)
    refine bad 1 1 ?_ ?_ ?_ ?_ (Or.inl ⟨rfl, rfl⟩)
    · unfold d_c_on
      exact ⟨dh, fun _ => trivial, fun q => absurd hb q⟩
    · unfold f_c_on
      rw [if_pos hb]
    · unfold d_m_on
      exact ⟨fun _ => f1 1, fun q => absurd m15 q⟩
    · unfold f_m_on
      rw [if_pos m15]
      rfl
