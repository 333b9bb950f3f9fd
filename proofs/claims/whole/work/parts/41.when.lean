/-! when -/
theorem op_when {S M : Nat → Nat → Int32} {t a b c d : Int32} (hA : yA S M t) (ht : t ≤ 900000) (ht0 : 0 ≤ t) : ∃ (tag : Nat) (v : Int32) (S' : Nat → Nat → Int32) (r : Int32) (M' : Nat → Nat → Int32), d_c_when a b c d S ∧ f_c_when a b c d S = (tag, v, S') ∧ d_m_when a b c d M ∧ f_m_when a b c d M = (r, M') ∧ yA S' M' (t + 60) ∧ (∀ c, 32 ≤ c → S' c = S c) ∧ (∀ c, c < 32 → M' c = M c) ∧
    ((tag = 0 ∧ M' 32 0 = 0) ∨ (tag = 1 ∧ M' 32 0 = 1) ∨ (tag = 2 ∧ M' 32 0 = 2)) := by
  have hA' := hA
  have tt : t ≤ t + 60 := by grind
  obtain ⟨g1, g2, dh⟩ := hbg hA
  obtain ⟨a1, a2, a3, a4, a5, a6, a7, a8, a9, a10, a11⟩ := hA
  obtain ⟨p1, p33, p34, p35, p5, p36, p37, p38, p39, p42, p44, p40, p43⟩ := a1
  obtain ⟨d1, d2, d3, d4, d6, d8, d12, d14a, d14b, d15, d16⟩ := a3
  have mO : ∀ (x : Int32) c, c ≠ 32 → (xj_set (xj_set M 32 0 0) 32 0 x) c = M c := fun x c h => by rw [s_set, if_neg h, s_set, if_neg h]
  have m0 : ∀ x : Int32, (xj_set (xj_set M 32 0 0) 32 0 x) 32 0 = x := fun x => by rw [s_set, if_pos rfl, u_at, if_pos rfl]
  have ds : d_p_hasSentry S a := by
    unfold d_p_hasSentry
    repeat' (first | with_reducible exact trivial | with_reducible assumption | with_reducible apply And.intro | intro _)
  have dv : d_c_isVariable S b := by
    unfold d_c_isVariable
    repeat' (first | with_reducible exact trivial | with_reducible assumption | with_reducible apply And.intro | intro _)
  have dm : d_m_isSentry (xj_set M 32 0 0) a := by
    unfold d_m_isSentry
    repeat' (first | with_reducible exact trivial | with_reducible assumption | with_reducible apply And.intro | intro _)
  have m5 : (xj_set M 32 0 0) 32 5 = S 1 5 := by rw [s_set, if_pos rfl, u_at, if_neg (by decide)]; exact p5
  have sn : r_p_hasSentry S a = if 0 ≤ a ∧ a < S 1 5 then 1 else 0 := by
    unfold r_p_hasSentry
    grind
  have sm : r_m_isSentry (xj_set M 32 0 0) a = if 0 ≤ a ∧ a < S 1 5 then 1 else 0 := by
    unfold r_m_isSentry
    rw [m5]
    grind
  have vn : r_c_isVariable S b = if 0 ≤ b ∧ b ≤ 3 then 1 else 0 := by
    unfold r_c_isVariable
    grind
  have bad : ∀ (tag : Nat) (x : Int32), d_c_when a b c d S → f_c_when a b c d S = (tag, 0, S) → d_m_when a b c d M → f_m_when a b c d M = (0, xj_set (xj_set M 32 0 0) 32 0 x) → ((tag = 1 ∧ x = 1) ∨ (tag = 2 ∧ x = 2)) → ∃ (tag : Nat) (v : Int32) (S' : Nat → Nat → Int32) (r : Int32) (M' : Nat → Nat → Int32), d_c_when a b c d S ∧ f_c_when a b c d S = (tag, v, S') ∧ d_m_when a b c d M ∧ f_m_when a b c d M = (r, M') ∧ yA S' M' (t + 60) ∧ (∀ c, 32 ≤ c → S' c = S c) ∧ (∀ c, c < 32 → M' c = M c) ∧
    ((tag = 0 ∧ M' 32 0 = 0) ∨ (tag = 1 ∧ M' 32 0 = 1) ∨ (tag = 2 ∧ M' 32 0 = 2)) := by
    intro tag x h1 h2 h3 h4 h5
    refine ⟨tag, 0, S, 0, _, h1, h2, h3, h4, yA_code (yA_code hA' (Int32.le_refl _)) tt, fun _ _ => rfl, fun c hc => mO x c (by omega), ?_⟩
    rw [m0]
    rcases h5 with h | h
    · exact Or.inr (Or.inl h)
    · exact Or.inr (Or.inr h)
  by_cases q0 : S 14 1 = 0
  · have hb := g1.2 q0
    have m15 := g2.2 q0
    have dC : d_c_when a b c d S := by
      unfold d_c_when
      rw [sn, vn]
      refine ⟨dh, fun _ => ⟨ds, fun _ => trivial, fun z => ⟨dv, fun _ => trivial, fun _ => ⟨fun _ => trivial, fun _ => ⟨fun _ => ?_, fun _ => trivial⟩⟩⟩⟩, fun q => absurd hb q⟩
      have v : vp_in a 16 := v16 (by grind) (by grind)
      exact ⟨⟨v, v, v, trivial⟩, trivial⟩
    have dM : d_m_when a b c d M := by
      unfold d_m_when
      rw [sm]
      refine ⟨fun _ => ⟨dm, fun _ => trivial, fun z => ⟨di _ _ _, fun _ => trivial, fun _ => ⟨di _ _ _, fun _ => ?_, fun _ => trivial⟩⟩⟩, fun q => absurd m15 q⟩
      have v : vp_in a 16 := v16 (by grind) (by grind)
      exact ⟨v, v, v, v, trivial⟩
    by_cases good : 0 ≤ a ∧ a < S 1 5 ∧ 0 ≤ b ∧ b ≤ 3 ∧ 0 ≤ c ∧ c ≤ 2
    · obtain ⟨w1, w2, w3, w4, w5, w6⟩ := good
      have fC : f_c_when a b c d S = (0, 0, xj_set (xj_set (xj_set S 12 (a).toNatClampNeg b) 11 (a).toNatClampNeg c) 13 (a).toNatClampNeg d) := by
        have W1 : r_p_hasSentry S a = 1 := by rw [sn, if_pos ⟨w1, w2⟩]
        have W2 : r_c_isVariable S b = 1 := by rw [vn, if_pos ⟨w3, w4⟩]
        unfold f_c_when f_p_putIfPart
        rw [if_pos hb, W1, W2, if_neg (by decide), if_neg (by decide), if_neg (by grind), if_pos w6]
      have fM : f_m_when a b c d M = (0, xj_set (xj_set (xj_set (xj_set (xj_set M 32 0 0) 41 (a).toNatClampNeg (1 &&& 1)) 42 (a).toNatClampNeg b) 43 (a).toNatClampNeg c) 44 (a).toNatClampNeg d) := by
        have W1 : r_m_isSentry (xj_set M 32 0 0) a = 1 := by rw [sm, if_pos ⟨w1, w2⟩]
        have W2 : r_m_within (xj_set M 32 0 0) b 3 = 1 := by rw [wi, if_pos ⟨w3, w4⟩]
        have W3 : r_m_within (xj_set M 32 0 0) c 2 = 1 := by rw [wi, if_pos ⟨w5, w6⟩]
        unfold f_m_when
        rw [if_pos m15, W1, W2, W3, if_neg (by decide), if_neg (by decide), if_pos (by decide)]
      obtain ⟨i5, i6, i7, i8, i10, i13, i14, i15⟩ := a4
      refine ⟨0, 0, _, 0, _, dC, fC, dM, fM, ?_, fun k hk => ?_, fun k hk => ?_, Or.inl ⟨rfl, ?_⟩⟩
      · refine yA_plan hA' tt q0 (fun k h1 h2 => ?_) (fun k h1 h2 => ?_) ?_ ?_ ?_ ?_ ?_ ?_ ?_ ?_ ?_ ?_ ?_ ?_ ?_
        · simp only [s_set]
          rw [if_neg (by omega), if_neg (by omega), if_neg (by omega)]
        · simp only [s_set]
          rw [if_neg (by omega), if_neg (by omega), if_neg (by omega), if_neg (by omega), if_neg (by omega)]
        · simp [s_set, u_at]
        · simp [s_set, u_at]
        · simp [s_set, u_at]
        · refine ⟨?_, ?_, ?_, ?_, ?_, ?_, ?_, ?_, ?_, ?_, ?_, ?_, fun u u0 u1 => ?_⟩
          · simp [s_set, u_at, p1]
          · simp [s_set, p33]
          · simp [s_set, p34]
          · simp [s_set, p35]
          · simp [s_set, u_at, p5]
          · simp [s_set, p36]
          · simp [s_set, p37]
          · simp [s_set, p38]
          · simp [s_set, p39]
          · simp [s_set, p42]
          · simp [s_set, p44]
          · simp only [s_set]
            simpa using p40
          · simp only [s_set]
            simp [u_at]
            have u1' : u < S 1 5 := by simpa [s_set] using u1
            by_cases y : u = a
            · subst y
              simp
              exact ⟨w5, w6⟩
            · have ne := ix_ne u0 w1 y
              simp [ne]
              exact p43 u u0 u1'
        · refine ⟨?_, ?_, ?_, ?_, ?_, ?_, ?_, ?_⟩
          · simpa [s_set] using i5
          · simpa [s_set] using i6
          · simpa [s_set] using i7
          · simpa [s_set] using i8
          · simpa [s_set] using i10
          · simpa [s_set] using i13
          · simpa [s_set] using i14
          · simpa [s_set] using i15
        · simpa [s_set] using d1
        · simpa [s_set] using d2
        · simpa [s_set] using d3
        · simpa [s_set] using d4
        · simpa [s_set] using d6
        · simpa [s_set] using d8
        · intro k
          simp only [s_set]
          simp [u_at]
          split
          · exact ⟨w3, by grind⟩
          · exact d12 k
        · simpa [s_set] using a11
      · simp only [s_set]
        rw [if_neg (by omega), if_neg (by omega), if_neg (by omega)]
      · simp only [s_set]
        rw [if_neg (by omega), if_neg (by omega), if_neg (by omega), if_neg (by omega), if_neg (by omega)]
      · simp [s_set, u_at]
    · refine bad 2 2 dC ?_ dM ?_ (Or.inr ⟨rfl, rfl⟩)
      · unfold f_c_when
        rw [if_pos hb, sn, vn]
        grind
      · unfold f_m_when
        rw [if_pos m15, sm, wi, wi]
        grind
  · have hb : ¬ r_l_hasBegun S = 0 := fun h => q0 (g1.1 h)
    have m15 : ¬ M 32 15 = 0 := fun h => q0 (g2.1 h)
    refine bad 1 1 ?_ ?_ ?_ ?_ (Or.inl ⟨rfl, rfl⟩)
    · unfold d_c_when
      exact ⟨dh, fun q => absurd q hb, fun _ => trivial⟩
    · unfold f_c_when
      rw [if_neg hb]
    · unfold d_m_when
      exact ⟨fun q => absurd q m15, fun _ => trivial⟩
    · unfold f_m_when
      rw [if_neg m15]
