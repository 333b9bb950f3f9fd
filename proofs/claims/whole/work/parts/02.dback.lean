/-! a command is opened, and put back -/
def yOm (M M1 : Nat → Nat → Int32) : Prop := (∀ c, c ≠ 32 → (c < 53 ∨ 60 < c) → M1 c = M c) ∧ (∀ i, i ≠ 27 → i ≠ 34 → i ≠ 37 → i ≠ 38 → M1 32 i = M 32 i) ∧ M1 32 27 = M 32 17 ∧ M1 32 34 = M 32 24 ∧ M1 32 37 = 0 ∧ M1 32 38 = 0 ∧ (∀ j, j < 40 → M1 53 j = M 45 j ∧ M1 54 j = M 46 j ∧ M1 55 j = M 47 j ∧ M1 56 j = M 48 j ∧ M1 57 j = M 49 j) ∧ (∀ j, j < 4 → M1 58 j = M 50 j) ∧ (∀ j, j < 48 → M1 59 j = M 51 j ∧ M1 60 j = M 52 j)
theorem kp_z {P : Nat → Prop} : ∀ j, j < 0 → P j := fun j h => absurd h (Nat.not_lt_zero j)
theorem o_keep (M : Nat → Nat → Int32) : d_m_keep M ∧ ∃ M1, f_m_keep M = (0, M1) ∧ yOm M M1 := by
  unfold d_m_keep f_m_keep
  obtain ⟨Mx, hx⟩ : ∃ Mx, Mx = xj_set (xj_set M 32 27 (M 32 17)) 32 34 (M 32 24) := ⟨_, rfl⟩
  rw [← hx]
  obtain ⟨n1, A, g1, g2, g3, g4⟩ := kp_keep0 200 0 150 Mx (by omega) (by omega) ⟨fun c _ _ _ _ _ => rfl, kp_z, fun _ _ => rfl, kp_z, fun _ _ => rfl, kp_z, fun _ _ => rfl, kp_z, fun _ _ => rfl, kp_z, fun _ _ => rfl⟩
  obtain ⟨n2, B, k1, k2, k3, k4⟩ := kp_keep1 n1 0 100 A (by omega) (by omega) ⟨fun c _ => rfl, kp_z, fun _ _ => rfl⟩
  obtain ⟨n3, C, l1, l2, l3, l4⟩ := kp_keep2 n2 0 0 B (by omega) (by omega) ⟨fun c _ _ => rfl, kp_z, fun _ _ => rfl, kp_z, fun _ _ => rfl⟩
  rw [nI_0] at g3 g4 k3 k4 l3 l4
  refine ⟨g4 (k4 (l4 trivial)), xj_set (xj_set C 32 37 0) 32 38 0, g3.trans (k3.trans l3), ?_⟩
  obtain ⟨aO, a53, _, a54, _, a55, _, a56, _, a57, _⟩ := g2
  obtain ⟨bO, b58, _⟩ := k2
  obtain ⟨cO, c59, _, c60, _⟩ := l2
  have x32 : Mx 32 = upd (upd (M 32) 27 (M 32 17)) 34 (M 32 24) := by rw [hx]; simp [s_set]
  have xO : ∀ c, c ≠ 32 → Mx c = M c := fun c h => by rw [hx]; simp [s_set, h]
  have w32 : C 32 = Mx 32 := by rw [cO 32 (by decide) (by decide), bO 32 (by decide), aO 32 (by decide) (by decide) (by decide) (by decide) (by decide)]
  have r32 : ∀ c, c ≠ 32 → (xj_set (xj_set C 32 37 0) 32 38 0) c = C c := fun c h => by simp [s_set, h]
  refine ⟨fun c h1 h2 => ?_, fun i h1 h2 h3 h4 => ?_, ?_, ?_, ?_, ?_, fun j hj => ⟨?_, ?_, ?_, ?_, ?_⟩, fun j hj => ?_, fun j hj => ⟨?_, ?_⟩⟩
  · rw [r32 c h1, cO c (by omega) (by omega), bO c (by omega), aO c (by omega) (by omega) (by omega) (by omega) (by omega), xO c h1]
  · simp only [s_set]
    simp [u_at, h3, h4, w32, x32, h1, h2]
  · simp only [s_set]
    simp [u_at, w32, x32]
  · simp only [s_set]
    simp [u_at, w32, x32]
  · simp only [s_set]
    simp [u_at]
  · simp only [s_set]
    simp [u_at]
  · rw [r32 53 (by decide), cO 53 (by decide) (by decide), bO 53 (by decide), a53 j hj, xO 45 (by decide)]
  · rw [r32 54 (by decide), cO 54 (by decide) (by decide), bO 54 (by decide), a54 j hj, xO 46 (by decide)]
  · rw [r32 55 (by decide), cO 55 (by decide) (by decide), bO 55 (by decide), a55 j hj, xO 47 (by decide)]
  · rw [r32 56 (by decide), cO 56 (by decide) (by decide), bO 56 (by decide), a56 j hj, xO 48 (by decide)]
  · rw [r32 57 (by decide), cO 57 (by decide) (by decide), bO 57 (by decide), a57 j hj, xO 49 (by decide)]
  · rw [r32 58 (by decide), cO 58 (by decide) (by decide), b58 j hj, aO 50 (by decide) (by decide) (by decide) (by decide) (by decide), xO 50 (by decide)]
  · rw [r32 59 (by decide), c59 j hj, bO 51 (by decide), aO 51 (by decide) (by decide) (by decide) (by decide) (by decide), xO 51 (by decide)]
  · rw [r32 60 (by decide), c60 j hj, bO 52 (by decide), aO 52 (by decide) (by decide) (by decide) (by decide) (by decide), xO 52 (by decide)]
def yUm (M1 M' : Nat → Nat → Int32) : Prop := (∀ c, (c ≤ 31 ∨ (33 ≤ c ∧ c ≤ 44) ∨ (53 ≤ c ∧ c ≤ 60)) → M' c = M1 c) ∧ (∀ i, gM i = true → M' 32 i = M1 32 i) ∧ yBm M1 M' ∧ (∀ j, 4 ≤ j → M' 50 j = M1 50 j)
theorem yUm_of {M1 M' : Nat → Nat → Int32} (h : yFm M1 M') : yUm M1 M' := by
  refine ⟨fun c hc => h.1 c ?_, h.2.1, h.2.2, fun j _ => by rw [h.1 50 rfl]⟩
  unfold fM
  simp
  omega
theorem yUm.tr {A B C : Nat → Nat → Int32} (h : yUm A B) (g : yUm B C) : yUm A C := ⟨fun c hc => (g.1 c hc).trans (h.1 c hc), fun i hi => (g.2.1 i hi).trans (h.2.1 i hi), h.2.2.1.tr g.2.2.1, fun j hj => (g.2.2.2 j hj).trans (h.2.2.2 j hj)⟩
/-- what putBack leaves: as it was before keep -/
theorem o_put {M M1 M' : Nat → Nat → Int32} (ho : yOm M M1) (hu : yUm M1 M') : d_m_putBack M' ∧ ∃ M2, f_m_putBack M' = (0, M2) ∧ (∀ c, c ≠ 32 → c < 53 → M2 c = M c) ∧ (∀ i, i ≠ 17 → i ≠ 24 → M2 32 i = M' 32 i) ∧ M2 32 17 = M 32 17 ∧ M2 32 24 = M 32 24 := by
  unfold d_m_putBack f_m_putBack
  obtain ⟨Mx, hx⟩ : ∃ Mx, Mx = xj_set (xj_set M' 32 17 (M' 32 27)) 32 24 (M' 32 34) := ⟨_, rfl⟩
  rw [← hx]
  obtain ⟨n1, A, g1, g2, g3, g4⟩ := kp_putBack0 200 0 150 Mx (by omega) (by omega) ⟨fun c _ _ _ _ _ => rfl, kp_z, fun _ _ => rfl, kp_z, fun _ _ => rfl, kp_z, fun _ _ => rfl, kp_z, fun _ _ => rfl, kp_z, fun _ _ => rfl⟩
  obtain ⟨n2, B, k1, k2, k3, k4⟩ := kp_putBack1 n1 0 100 A (by omega) (by omega) ⟨fun c _ => rfl, kp_z, fun _ _ => rfl⟩
  obtain ⟨n3, C, m1, m2, m3, m4⟩ := kp_putBack2 n2 0 0 B (by omega) (by omega) ⟨fun c _ _ => rfl, kp_z, fun _ _ => rfl, kp_z, fun _ _ => rfl⟩
  rw [nI_0] at g3 g4 k3 k4 m3 m4
  refine ⟨g4 (k4 (m4 trivial)), C, g3.trans (k3.trans m3), ?_⟩
  obtain ⟨aO, a45, z45, a46, z46, a47, z47, a48, z48, a49, z49⟩ := g2
  obtain ⟨bO, b50, z50⟩ := k2
  obtain ⟨cO, c51, z51, c52, z52⟩ := m2
  have x32 : Mx 32 = upd (upd (M' 32) 17 (M' 32 27)) 24 (M' 32 34) := by rw [hx]; simp [s_set]
  have xO : ∀ c, c ≠ 32 → Mx c = M' c := fun c h => by rw [hx]; simp [s_set, h]
  have w32 : C 32 = Mx 32 := by rw [cO 32 (by decide) (by decide), bO 32 (by decide), aO 32 (by decide) (by decide) (by decide) (by decide) (by decide)]
  obtain ⟨oO, o32, o27, o34, o37, o38, o40, o4, o48⟩ := ho
  obtain ⟨uO, u32, uB, u50⟩ := hu
  have row : ∀ c d, C c = A c → (∀ j, j < 40 → A c j = Mx d j) → (∀ j, 40 ≤ j → A c j = Mx c j) → d ≠ 32 → c ≠ 32 → M' d = M1 d → (∀ j, j < 40 → M1 d j = M c j) → (∀ j, 40 ≤ j → M' c j = M1 c j) → M1 c = M c → C c = M c := by
    intro c d h1 h2 h3 hd hc h4 h5 h6 h7
    funext j
    rw [h1]
    rcases Nat.lt_or_ge j 40 with y | y
    · rw [h2 j y, xO d hd, h4, h5 j y]
    · rw [h3 j y, xO c hc, h6 j y, h7]
  refine ⟨fun c h1 h2 => ?_, fun i h1 h2 => ?_, ?_, ?_⟩
  · by_cases q : 45 ≤ c
    · have hc : c = 45 ∨ c = 46 ∨ c = 47 ∨ c = 48 ∨ c = 49 ∨ c = 50 ∨ c = 51 ∨ c = 52 := by omega
      rcases hc with rfl | rfl | rfl | rfl | rfl | rfl | rfl | rfl
      · exact row 45 53 (by rw [cO 45 (by decide) (by decide), bO 45 (by decide)]) a45 z45 (by decide) (by decide) (uO 53 (by omega)) (fun j hj => (o40 j hj).1) (fun j hj => (uB.1 j hj).1) (oO 45 (by decide) (by omega))
      · exact row 46 54 (by rw [cO 46 (by decide) (by decide), bO 46 (by decide)]) a46 z46 (by decide) (by decide) (uO 54 (by omega)) (fun j hj => (o40 j hj).2.1) (fun j hj => (uB.1 j hj).2.1) (oO 46 (by decide) (by omega))
      · exact row 47 55 (by rw [cO 47 (by decide) (by decide), bO 47 (by decide)]) a47 z47 (by decide) (by decide) (uO 55 (by omega)) (fun j hj => (o40 j hj).2.2.1) (fun j hj => (uB.1 j hj).2.2.1) (oO 47 (by decide) (by omega))
      · exact row 48 56 (by rw [cO 48 (by decide) (by decide), bO 48 (by decide)]) a48 z48 (by decide) (by decide) (uO 56 (by omega)) (fun j hj => (o40 j hj).2.2.2.1) (fun j hj => (uB.1 j hj).2.2.2.1) (oO 48 (by decide) (by omega))
      · exact row 49 57 (by rw [cO 49 (by decide) (by decide), bO 49 (by decide)]) a49 z49 (by decide) (by decide) (uO 57 (by omega)) (fun j hj => (o40 j hj).2.2.2.2) (fun j hj => (uB.1 j hj).2.2.2.2) (oO 49 (by decide) (by omega))
      · funext j
        rw [cO 50 (by decide) (by decide)]
        rcases Nat.lt_or_ge j 4 with y | y
        · rw [b50 j y, aO 58 (by decide) (by decide) (by decide) (by decide) (by decide), xO 58 (by decide), uO 58 (by omega), o4 j y]
        · rw [z50 j y, aO 50 (by decide) (by decide) (by decide) (by decide) (by decide), xO 50 (by decide), u50 j y, oO 50 (by decide) (by omega)]
      · funext j
        rcases Nat.lt_or_ge j 48 with y | y
        · rw [c51 j y, bO 59 (by decide), aO 59 (by decide) (by decide) (by decide) (by decide) (by decide), xO 59 (by decide), uO 59 (by omega), (o48 j y).1]
        · rw [z51 j y, bO 51 (by decide), aO 51 (by decide) (by decide) (by decide) (by decide) (by decide), xO 51 (by decide), (uB.2 j y).1, oO 51 (by decide) (by omega)]
      · funext j
        rcases Nat.lt_or_ge j 48 with y | y
        · rw [c52 j y, bO 60 (by decide), aO 60 (by decide) (by decide) (by decide) (by decide) (by decide), xO 60 (by decide), uO 60 (by omega), (o48 j y).2]
        · rw [z52 j y, bO 52 (by decide), aO 52 (by decide) (by decide) (by decide) (by decide) (by decide), xO 52 (by decide), (uB.2 j y).2, oO 52 (by decide) (by omega)]
    · rw [cO c (by omega) (by omega), bO c (by omega), aO c (by omega) (by omega) (by omega) (by omega) (by omega), xO c h1, uO c (by omega), oO c h1 (by omega)]
  · rw [w32, x32]
    simp [u_at, h1, h2]
  · rw [w32, x32]
    simp [u_at]
    rw [u32 27 rfl, o27]
  · rw [w32, x32]
    simp [u_at]
    rw [u32 34 rfl, o34]
/-! the class -/
def yOp (S S1 : Nat → Nat → Int32) : Prop := (∀ c, c ≠ 0 → (c < 23 ∨ 31 < c) → S1 c = S c) ∧ S1 0 3 = 0 ∧ S1 0 4 = 0 ∧ S1 23 0 = S 14 0 ∧ S1 23 1 = S 14 1 ∧ S1 23 8 = S 14 8 ∧ (∀ j, j < 40 → S1 24 j = S 15 j ∧ S1 25 j = S 16 j ∧ S1 26 j = S 17 j ∧ S1 27 j = S 18 j ∧ S1 28 j = S 19 j) ∧ (∀ j, j < 4 → S1 29 j = S 20 j) ∧ (∀ j, j < 48 → S1 30 j = S 21 j ∧ S1 31 j = S 22 j)
theorem cpy_lt {f g : Nat → Int32} {n j : Nat} (h : j < n) : va_cpy f g 0 0 n j = f j := by
  unfold va_cpy
  rw [if_pos ⟨Nat.zero_le _, by omega⟩]
  simp
theorem cpy_ge {f g : Nat → Int32} {n j : Nat} (h : n ≤ j) : va_cpy f g 0 0 n j = g j := by
  unfold va_cpy
  rw [if_neg (by omega)]
theorem o_open (S : Nat → Nat → Int32) : d_c_openCommand S ∧ ∃ S1, f_c_openCommand S = (0, S1) ∧ yOp S S1 := by
  refine ⟨⟨trivial, trivial⟩, _, rfl, ?_⟩
  simp only [yOp, s_set, s_setA]
  refine ⟨fun c h1 h2 => ?_, ?_, ?_, ?_, ?_, ?_, fun j hj => ?_, fun j hj => ?_, fun j hj => ?_⟩
  · have n1 : ¬ c = 23 := by omega
    have n2 : ¬ c = 24 := by omega
    have n3 : ¬ c = 25 := by omega
    have n4 : ¬ c = 26 := by omega
    have n5 : ¬ c = 27 := by omega
    have n6 : ¬ c = 28 := by omega
    have n7 : ¬ c = 29 := by omega
    have n8 : ¬ c = 30 := by omega
    have n9 : ¬ c = 31 := by omega
    simp [h1, n1, n2, n3, n4, n5, n6, n7, n8, n9]
  · simp [u_at]
  · simp [u_at]
  · simp [u_at]
  · simp [u_at]
  · simp [u_at]
  · simp [cpy_lt hj]
  · simp [cpy_lt hj]
  · simp [cpy_lt hj]
def yUs (S1 S' : Nat → Nat → Int32) : Prop := (∀ c, ((1 ≤ c ∧ c ≤ 13) ∨ 23 ≤ c) → S' c = S1 c) ∧ yBd S1 S' ∧ (∀ j, 4 ≤ j → S' 20 j = S1 20 j)
theorem yUs_of {S1 S' : Nat → Nat → Int32} (h : yF S1 S') : yUs S1 S' := by
  refine ⟨fun c hc => h.1 c ?_, h.2.2.1, fun j _ => by rw [h.1 20 rfl]⟩
  unfold fC
  simp
  omega
theorem yUs.tr {A B C : Nat → Nat → Int32} (h : yUs A B) (g : yUs B C) : yUs A C := ⟨fun c hc => (g.1 c hc).trans (h.1 c hc), h.2.1.tr g.2.1, fun j hj => (g.2.2 j hj).trans (h.2.2 j hj)⟩
theorem o_back {S S1 S' : Nat → Nat → Int32} (ho : yOp S S1) (hu : yUs S1 S') : (∀ c, c ≠ 0 → c ≠ 14 → (c < 23 ∨ 31 < c) → (f_l_copyFrom14 S').2 c = S c) ∧ (f_l_copyFrom14 S').2 14 0 = S 14 0 ∧ (f_l_copyFrom14 S').2 14 1 = S 14 1 ∧ (f_l_copyFrom14 S').2 14 8 = S 14 8 := by
  obtain ⟨oO, _, _, o0, o1, o8, o40, o4, o48⟩ := ho
  obtain ⟨uO, uB, u20⟩ := hu
  unfold f_l_copyFrom14
  simp only [s_set, s_setA]
  refine ⟨fun c h0 h14 h => ?_, ?_, ?_, ?_⟩
  · by_cases q : 15 ≤ c ∧ c ≤ 22
    · have hc : c = 15 ∨ c = 16 ∨ c = 17 ∨ c = 18 ∨ c = 19 ∨ c = 20 ∨ c = 21 ∨ c = 22 := by omega
      rcases hc with rfl | rfl | rfl | rfl | rfl | rfl | rfl | rfl
      · simp
        funext j
        rcases Nat.lt_or_ge j 40 with y | y
        · rw [cpy_lt y, uO 24 (by omega), (o40 j y).1]
        · rw [cpy_ge y, (uB.1 j y).1, oO 15 (by decide) (by omega)]
      · simp
        funext j
        rcases Nat.lt_or_ge j 40 with y | y
        · rw [cpy_lt y, uO 25 (by omega), (o40 j y).2.1]
        · rw [cpy_ge y, (uB.1 j y).2.1, oO 16 (by decide) (by omega)]
      · simp
        funext j
        rcases Nat.lt_or_ge j 40 with y | y
        · rw [cpy_lt y, uO 26 (by omega), (o40 j y).2.2.1]
        · rw [cpy_ge y, (uB.1 j y).2.2.1, oO 17 (by decide) (by omega)]
      · simp
        funext j
        rcases Nat.lt_or_ge j 40 with y | y
        · rw [cpy_lt y, uO 27 (by omega), (o40 j y).2.2.2.1]
        · rw [cpy_ge y, (uB.1 j y).2.2.2.1, oO 18 (by decide) (by omega)]
      · simp
        funext j
        rcases Nat.lt_or_ge j 40 with y | y
        · rw [cpy_lt y, uO 28 (by omega), (o40 j y).2.2.2.2]
        · rw [cpy_ge y, (uB.1 j y).2.2.2.2, oO 19 (by decide) (by omega)]
      · simp
        funext j
        rcases Nat.lt_or_ge j 4 with y | y
        · rw [cpy_lt y, uO 29 (by omega), o4 j y]
        · rw [cpy_ge y, u20 j y, oO 20 (by decide) (by omega)]
      · simp
        funext j
        rcases Nat.lt_or_ge j 48 with y | y
        · rw [cpy_lt y, uO 30 (by omega), (o48 j y).1]
        · rw [cpy_ge y, (uB.2 j y).1, oO 21 (by decide) (by omega)]
      · simp
        funext j
        rcases Nat.lt_or_ge j 48 with y | y
        · rw [cpy_lt y, uO 31 (by omega), (o48 j y).2]
        · rw [cpy_ge y, (uB.2 j y).2, oO 22 (by decide) (by omega)]
    · have n1 : ¬ c = 15 := by omega
      have n2 : ¬ c = 16 := by omega
      have n3 : ¬ c = 17 := by omega
      have n4 : ¬ c = 18 := by omega
      have n5 : ¬ c = 19 := by omega
      have n6 : ¬ c = 20 := by omega
      have n7 : ¬ c = 21 := by omega
      have n8 : ¬ c = 22 := by omega
      simp [h14, n1, n2, n3, n4, n5, n6, n7, n8]
      rw [uO c (by omega), oO c h0 (by omega)]
  · simp [u_at]
    rw [uO 23 (by omega), o0]
  · simp [u_at]
    rw [uO 23 (by omega), o1]
  · simp [u_at]
    rw [uO 23 (by omega), o8]
