/-! the operations that describe: item, when -/
theorem yA_plan {S M S2 M2 : Nat → Nat → Int32} {t t2 : Int32} (hA : yA S M t) (ht : t ≤ t2) (h0 : S 14 1 = 0) (hS : ∀ c, 14 ≤ c → c ≤ 22 → S2 c = S c) (hM : ∀ c, 45 ≤ c → c ≤ 52 → M2 c = M c) (m17 : M2 32 17 = M 32 17) (m24 : M2 32 24 = M 32 24) (m15 : M2 32 15 = M 32 15) (hp : yP S2 M2) (hi : yI S2) (r1 : 1 ≤ S2 1 0) (r2 : S2 1 0 ≤ 12) (r3 : 0 ≤ S2 1 5) (r4 : S2 1 5 ≤ 16) (r6 : ∀ s, 0 ≤ S2 6 s ∧ S2 6 s < 12) (r8 : ∀ s, 0 ≤ S2 8 s ∧ S2 8 s ≤ 2) (r12 : ∀ s, 0 ≤ S2 12 s ∧ S2 12 s < 4) (h2 : S2 2 0 = 0) : yA S2 M2 t2 := by
  obtain ⟨a1, a2, a3, a4, a5, a6, a7, a8, a9, a10, a11⟩ := hA
  have s14 := hS 14 (by decide) (by decide)
  have s15 := hS 15 (by decide) (by decide)
  have s16 := hS 16 (by decide) (by decide)
  have s17 := hS 17 (by decide) (by decide)
  have s18 := hS 18 (by decide) (by decide)
  have s19 := hS 19 (by decide) (by decide)
  have s20 := hS 20 (by decide) (by decide)
  have s21 := hS 21 (by decide) (by decide)
  have s22 := hS 22 (by decide) (by decide)
  obtain ⟨d1, d2, d3, d4, d6, d8, d12, d14a, d14b, d15, d16⟩ := a3
  obtain ⟨k1, k2, k3, k4, k5, k6, k7, k8⟩ := a5
  have no : ∀ u : Int32, 0 ≤ u → u < S2 14 1 → False := fun u u0 u1 => by rw [s14, h0] at u1; grind
  refine ⟨hp, ?_, ⟨r1, r2, r3, r4, r6, r8, r12, by rw [s14]; exact d14a, by rw [s14]; exact d14b, by rw [s15]; exact d15, by rw [s16]; exact d16⟩, hi, ⟨by rw [s17]; exact k1, fun u u0 u1 => (no u u0 u1).elim, fun u u0 u1 => (no u u0 u1).elim, fun u u0 u1 => (no u u0 u1).elim, fun u u0 u1 => (no u u0 u1).elim, fun u b u0 u1 => (no u u0 u1).elim, by rw [s14, s18, s19]; exact k7, fun u u0 u1 => (no u u0 u1).elim⟩, fun u u0 u1 => (no u u0 u1).elim, by rw [s14]; exact a7, by rw [s14]; exact Int32.le_trans a8 ht, by rw [s14, m15]; exact a9, fun q => absurd (by rw [s14]; exact h0) q, h2⟩
  unfold yL at a2 ⊢
  rw [m17, m24, hM 45 (by decide) (by decide), hM 46 (by decide) (by decide), hM 47 (by decide) (by decide), hM 48 (by decide) (by decide), hM 49 (by decide) (by decide), hM 50 (by decide) (by decide), hM 51 (by decide) (by decide), hM 52 (by decide) (by decide), s14, s15, s16, s17, s18, s19, s20, s21, s22]
  exact a2
theorem wi (X : Nat → Nat → Int32) (a n : Int32) : r_m_within X a n = if 0 ≤ a ∧ a ≤ n then 1 else 0 := by
  unfold r_m_within
  grind
theorem di (X : Nat → Nat → Int32) (a n : Int32) : d_m_within X a n := by
  unfold d_m_within
  repeat' (first | with_reducible exact trivial | with_reducible assumption | with_reducible apply And.intro | intro _)
theorem hbg {S M : Nat → Nat → Int32} {t : Int32} (hA : yA S M t) : (r_l_hasBegun S = 0 ↔ S 14 1 = 0) ∧ (M 32 15 = 0 ↔ S 14 1 = 0) ∧ d_l_hasBegun S := by
  obtain ⟨a1, a2, a3, a4, a5, a6, a7, a8, a9, a10, a11⟩ := hA
  have z := a3.2.2.2.2.2.2.2.1
  refine ⟨?_, ⟨fun h => ?_, a9⟩, ?_⟩
  · unfold r_l_hasBegun
    grind
  · by_cases q : S 14 1 = 0
    · exact q
    · rw [(a10 q).1] at h
      exact absurd h (by decide)
  · unfold d_l_hasBegun
    repeat' (first | with_reducible exact trivial | with_reducible assumption | with_reducible apply And.intro | intro _)
theorem c8 : ∀ n, n < 16 → ((nI n &&& 8 = 0) ↔ nI n ≤ 7) := by decide +kernel
theorem c8' {c : Int32} (h0 : 0 ≤ c) (h : c ≤ 15) : (c &&& 8 = 0) ↔ c ≤ 7 := by
  obtain ⟨n, hn, rfl⟩ := i_of h0
  have z := (nI_leI hn (by decide)).1 (show nI n ≤ nI 15 from h)
  exact c8 n (by omega)
theorem stg {S : Nat → Nat → Int32} (b : Int32) : (r_p_isStage S b = 0 ↔ ¬ (0 ≤ b ∧ b < S 1 0 ∧ S 2 (b).toNatClampNeg = 0)) := by
  unfold r_p_isStage r_p_hasItem
  grind
theorem op_item {S M : Nat → Nat → Int32} {t a b c : Int32} (hA : yA S M t) (ht : t ≤ 900000) (ht0 : 0 ≤ t) : ∃ (tag : Nat) (v : Int32) (S' : Nat → Nat → Int32) (r : Int32) (M' : Nat → Nat → Int32), d_c_item a b c S ∧ f_c_item a b c S = (tag, v, S') ∧ d_m_item a b c M ∧ f_m_item a b c M = (r, M') ∧ yA S' M' (t + 60) ∧ (∀ c, 32 ≤ c → S' c = S c) ∧ (∀ c, c < 32 → M' c = M c) ∧
    ((tag = 0 ∧ M' 32 0 = 0 ∧ r = v) ∨ (tag = 1 ∧ M' 32 0 = 1) ∨ (tag = 2 ∧ M' 32 0 = 2)) := by
  have hA' := hA
  have tt : t ≤ t + 60 := by grind
  obtain ⟨g1, g2, dh⟩ := hbg hA
  obtain ⟨a1, a2, a3, a4, a5, a6, a7, a8, a9, a10, a11⟩ := hA
  have a1' := a1
  have a3' := a3
  obtain ⟨p1, p33, p34, p35, p5, p36, p37, p38, p39, p42, p44, p40, p43⟩ := a1
  obtain ⟨d1, d2, d3, d4, d6, d8, d12, d14a, d14b, d15, d16⟩ := a3
  have mO : ∀ (x : Int32) c, c ≠ 32 → (xj_set (xj_set M 32 0 0) 32 0 x) c = M c := fun x c h => by rw [s_set, if_neg h, s_set, if_neg h]
  have m0 : ∀ x : Int32, (xj_set (xj_set M 32 0 0) 32 0 x) 32 0 = x := fun x => by rw [s_set, if_pos rfl, u_at, if_pos rfl]
  have bad : ∀ (tag : Nat) (x : Int32), d_c_item a b c S → f_c_item a b c S = (tag, 0, S) → d_m_item a b c M → f_m_item a b c M = (0, xj_set (xj_set M 32 0 0) 32 0 x) → ((tag = 1 ∧ x = 1) ∨ (tag = 2 ∧ x = 2)) → ∃ (tag : Nat) (v : Int32) (S' : Nat → Nat → Int32) (r : Int32) (M' : Nat → Nat → Int32), d_c_item a b c S ∧ f_c_item a b c S = (tag, v, S') ∧ d_m_item a b c M ∧ f_m_item a b c M = (r, M') ∧ yA S' M' (t + 60) ∧ (∀ c, 32 ≤ c → S' c = S c) ∧ (∀ c, c < 32 → M' c = M c) ∧
    ((tag = 0 ∧ M' 32 0 = 0 ∧ r = v) ∨ (tag = 1 ∧ M' 32 0 = 1) ∨ (tag = 2 ∧ M' 32 0 = 2)) := by
    intro tag x h1 h2 h3 h4 h5
    refine ⟨tag, 0, S, 0, _, h1, h2, h3, h4, yA_code (yA_code hA' (Int32.le_refl _)) tt, fun _ _ => rfl, fun c hc => mO x c (by omega), ?_⟩
    rw [m0]
    rcases h5 with h | h
    · exact Or.inr (Or.inl h)
    · exact Or.inr (Or.inr h)
  have ds : d_p_isStage S b := by
    unfold d_p_isStage d_p_hasItem
    refine ⟨?_, fun _ => trivial, fun q => ?_⟩
    · repeat' (first | with_reducible exact trivial | with_reducible assumption | with_reducible apply And.intro | intro _)
    · have v : vp_in b 12 := by
        unfold r_p_hasItem at q
        exact v12 (by grind) (by grind)
      repeat' (first | with_reducible exact trivial | with_reducible assumption | with_reducible apply And.intro | intro _)
  have f1 : ∀ x : Int32, d_m_fail x (xj_set M 32 0 0) ∧ True := fun x => ⟨trivial, trivial⟩
  by_cases q0 : S 14 1 = 0
  · have hb : ¬ r_l_hasBegun S ≠ 0 := fun h => h (g1.2 q0)
    have m15 : ¬ M 32 15 ≠ 0 := fun h => h (g2.2 q0)
    by_cases q12 : S 1 0 = 12
    · refine bad 1 1 ?_ ?_ ?_ ?_ (Or.inl ⟨rfl, rfl⟩)
      · unfold d_c_item
        exact ⟨dh, fun q => absurd q hb, fun _ => ⟨fun q => absurd q12 q, fun _ => trivial⟩⟩
      · unfold f_c_item
        rw [if_neg hb, if_neg (fun q => q q12)]
      · unfold d_m_item
        rw [p1]
        exact ⟨fun q => absurd q m15, fun _ => ⟨fun q => absurd q12 q, fun _ => f1 1⟩⟩
      · unfold f_m_item
        rw [if_neg m15, p1, if_neg (fun q => q q12)]
        rfl
    · have vi : vp_in (S 1 0) 12 := v12 (by grind) (by grind)
      have da : d_p_addItem a b c S := ⟨vi, vi, vi, trivial⟩
      have dC : d_c_item a b c S := by
        have e : ∀ X : Int32 × (Nat → Nat → Int32), (match X with | (_, _) => True) = True := fun X => rfl
        unfold d_c_item
        simp only [e]
        repeat' (first | with_reducible exact trivial | with_reducible assumption | with_reducible apply And.intro | intro _)
      have dM : d_m_item a b c M := by
        unfold d_m_item
        rw [p1, p33]
        refine ⟨fun q => absurd q m15, fun _ => ⟨fun _ => ⟨di _ _ _, fun _ => f1 2, fun _ => ⟨di _ _ _, fun _ => f1 2, fun z2 => ⟨di _ _ _, fun _ => ⟨?_, fun _ => f1 2, fun _ => ⟨fun _ => ⟨vi, vi, vi, trivial⟩, fun _ => ⟨fun _ => ⟨vi, vi, vi, trivial⟩, fun _ => f1 2⟩⟩⟩, fun _ => f1 2⟩⟩⟩, fun q => absurd q12 q⟩⟩
        rw [wi] at z2
        exact v12 (by grind) (by grind)
      by_cases good : 0 ≤ a ∧ a ≤ 3 ∧ 0 ≤ b ∧ b < S 1 0 ∧ S 2 (b).toNatClampNeg = 0 ∧ 0 ≤ c ∧ c ≤ 15 ∧ (c ≤ 7 ∨ a = 0)
      · obtain ⟨w1, w2, w3, w4, w5, w6, w7, w8⟩ := good
        have e8 := c8' w6 w7
        have st := stg (S := S) b
        have e1 : S 1 0 + 1 - 1 = S 1 0 := by grind
        have fC : f_c_item a b c S = (0, S 1 0, xj_set (xj_set (xj_set (xj_set S 2 (S 1 0).toNatClampNeg a) 3 (S 1 0).toNatClampNeg b) 4 (S 1 0).toNatClampNeg c) 1 0 (S 1 0 + 1)) := by
          unfold f_c_item f_p_addItem
          rw [if_neg hb, if_pos q12, if_neg (by grind), if_neg (by grind), e1]
          by_cases z : c &&& 8 = 0
          · rw [if_pos z, if_neg (by grind), if_neg (by grind), if_neg (by grind)]
          · rw [if_neg z, if_neg (by grind), if_neg (by grind), if_neg (by grind), if_neg (by grind)]
        have fM : f_m_item a b c M = (S 1 0, xj_set (xj_set (xj_set (xj_set (xj_set M 32 0 0) 33 (S 1 0).toNatClampNeg a) 34 (S 1 0).toNatClampNeg b) 35 (S 1 0).toNatClampNeg c) 32 1 (S 1 0 + 1)) := by
          have W1 : r_m_within (xj_set M 32 0 0) a 3 = 1 := by rw [wi, if_pos ⟨w1, w2⟩]
          have W2 : r_m_within (xj_set M 32 0 0) b (S 1 0 - 1) = 1 := by rw [wi, if_pos ⟨w3, by grind⟩]
          have W3 : r_m_within (xj_set M 32 0 0) c 15 = 1 := by rw [wi, if_pos ⟨w6, w7⟩]
          unfold f_m_item
          rw [if_neg m15, p1, p33, if_pos q12, W1, W2, W3, if_neg (by decide), if_neg (by decide), if_pos (by decide), if_neg (fun q => q w5), e1]
          rcases w8 with z | z
          · rw [if_pos z]
          · by_cases z7 : c ≤ 7
            · rw [if_pos z7]
            · rw [if_neg z7, if_pos z]
        obtain ⟨i5, i6, i7, i8, i10, i13, i14, i15⟩ := a4
        have n0 : ¬ 0 = (S 1 0).toNatClampNeg := by
          have z := ix_lt (by decide : (0 : Int32) ≤ 0) (by grind : (0 : Int32) < S 1 0)
          have e : ((0 : Int32)).toNatClampNeg = 0 := by decide
          omega
        refine ⟨0, _, _, _, _, dC, fC, dM, fM, ?_, fun k hk => ?_, fun k hk => ?_, Or.inl ⟨rfl, ?_, rfl⟩⟩
        · refine yA_plan hA' tt q0 (fun k h1 h2 => ?_) (fun k h1 h2 => ?_) ?_ ?_ ?_ ?_ ?_ ?_ ?_ ?_ ?_ ?_ ?_ ?_ ?_
          · simp only [s_set]
            rw [if_neg (by omega), if_neg (by omega), if_neg (by omega), if_neg (by omega)]
          · simp only [s_set]
            rw [if_neg (by omega), if_neg (by omega), if_neg (by omega), if_neg (by omega), if_neg (by omega)]
          · simp [s_set, u_at]
          · simp [s_set, u_at]
          · simp [s_set, u_at]
          · refine ⟨?_, ?_, ?_, ?_, ?_, ?_, ?_, ?_, ?_, ?_, ?_, ?_, ?_⟩
            · simp [s_set, u_at]
            · simp [s_set, p33]
            · simp [s_set, p34]
            · simp [s_set, p35]
            · simp [s_set, u_at, p5]
            · simp [s_set, p36]
            · simp [s_set, p37]
            · simp [s_set, p38]
            · simp [s_set, p39]
            · simp [s_set, p42]
            · simp [s_set, p44]
            · simp only [s_set]
              simpa using p40
            · simp only [s_set, u_at]
              simpa [u_at] using p43
          · refine ⟨fun k => ?_, ?_, ?_, fun u u0 u1 => ?_, ?_, ?_, ?_, ?_⟩
            · simp only [s_set]
              simp [u_at]
              split
              · exact ⟨w1, w2⟩
              · exact i5 k
            · simp only [s_set]
              simp [u_at, n0]
              exact i6
            · simp only [s_set]
              simp [u_at, n0]
              exact i7
            · simp only [s_set]
              simp [u_at]
              split
              · rename_i e
                have e' := ix_inj (by grind : 0 ≤ u) (by grind : 0 ≤ S 1 0) e
                rw [e']; exact w4
              · exact i8 u u0 u1
            · simp only [s_set]
              simpa [u_at] using i10
            · simp only [s_set]
              simpa using i13
            · simp only [s_set]
              simpa [u_at] using i14
            · simp only [s_set]
              simpa [u_at] using i15
          · simp [s_set, u_at]; grind
          · simp [s_set, u_at]; grind
          · simp [s_set, u_at]; exact d3
          · simp [s_set, u_at]; exact d4
          · simpa [s_set] using d6
          · simpa [s_set] using d8
          · simpa [s_set] using d12
          · simp [s_set, u_at, n0]; exact a11
        · simp only [s_set]
          rw [if_neg (by omega), if_neg (by omega), if_neg (by omega), if_neg (by omega)]
        · simp only [s_set]
          rw [if_neg (by omega), if_neg (by omega), if_neg (by omega), if_neg (by omega), if_neg (by omega)]
        · simp [s_set, u_at]
      · have st := stg (S := S) b
        refine bad 2 2 dC ?_ dM ?_ (Or.inr ⟨rfl, rfl⟩)
        · have e8 : 0 ≤ c → c ≤ 15 → ((c &&& 8 = 0) ↔ c ≤ 7) := c8'
          unfold f_c_item
          rw [if_neg hb, if_pos q12]
          grind
        · unfold f_m_item f_m_fail
          rw [if_neg m15, p1, p33, if_pos q12, wi, wi, wi]
          grind
  · have hb : r_l_hasBegun S ≠ 0 := fun h => q0 (g1.1 h)
    have m15 : M 32 15 ≠ 0 := fun h => q0 (g2.1 h)
    refine bad 1 1 ?_ ?_ ?_ ?_ (Or.inl ⟨rfl, rfl⟩)
    · unfold d_c_item
      exact ⟨dh, fun _ => trivial, fun q => absurd hb q⟩
    · unfold f_c_item
      rw [if_pos hb]
    · unfold d_m_item
      exact ⟨fun _ => f1 1, fun q => absurd m15 q⟩
    · unfold f_m_item
      rw [if_pos m15]
      rfl
