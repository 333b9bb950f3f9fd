/-! keep and putBack of the model -/
def kp_keep0I (i : Nat) (M0 M : Nat → Nat → Int32) : Prop := (∀ c, c ≠ 53 → c ≠ 54 → c ≠ 55 → c ≠ 56 → c ≠ 57 → M c = M0 c) ∧ (∀ j, j < i → M 53 j = M0 45 j) ∧ (∀ j, i ≤ j → M 53 j = M0 53 j) ∧ (∀ j, j < i → M 54 j = M0 46 j) ∧ (∀ j, i ≤ j → M 54 j = M0 54 j) ∧ (∀ j, j < i → M 55 j = M0 47 j) ∧ (∀ j, i ≤ j → M 55 j = M0 55 j) ∧ (∀ j, j < i → M 56 j = M0 48 j) ∧ (∀ j, i ≤ j → M 56 j = M0 56 j) ∧ (∀ j, j < i → M 57 j = M0 49 j) ∧ (∀ j, i ≤ j → M 57 j = M0 57 j)
theorem kp_keep0 {M0 : Nat → Nat → Int32} : ∀ (n i r : Nat) (M : Nat → Nat → Int32), i ≤ 40 → 40 - i + 1 + r ≤ n → kp_keep0I i M0 M → ∃ n' M', r ≤ n' ∧ kp_keep0I 40 M0 M' ∧ (fk_m_keep n).1 (nI i) M = (fk_m_keep n').2.1 0 M' ∧ ((dk_m_keep n').2.1 0 M' → (dk_m_keep n).1 (nI i) M) := by
  intro n
  induction n with
  | zero => intro i r M h1 h2; omega
  | succ n ih =>
    intro i r M h1 h2 hI
    rw [fe_m_keep_0, de_m_keep_0]
    by_cases q : (40 : Int32) ≤ nI i
    · have z : 40 ≤ i := (nI_leI (by decide) (by omega)).1 (show nI 40 ≤ nI i from q)
      have e : i = 40 := by omega
      subst e
      rw [if_pos q]
      exact ⟨n, M, by omega, hI, rfl, fun h => ⟨fun _ => h, fun h => absurd q h⟩⟩
    · have z : i < 40 := by
        rcases Nat.lt_or_ge i 40 with z | z
        · exact z
        · exact absurd (show nI 40 ≤ nI i from nI_le z (by omega)) q
      rw [if_neg q, nI_clamp (by omega : i < 2 ^ 31), nI_1]
      have v : vp_in (nI i) 40 := vp_in_nI z (by decide)
      obtain ⟨hO, a53, b53, a54, b54, a55, b55, a56, b56, a57, b57⟩ := hI
      have hI2 : kp_keep0I (i + 1) M0 (xj_set (xj_set (xj_set (xj_set (xj_set M 53 i (M 45 i)) 54 i (M 46 i)) 55 i (M 47 i)) 56 i (M 48 i)) 57 i (M 49 i)) := by
        refine ⟨fun c g53 g54 g55 g56 g57 => ?_, fun j hj => ?_, fun j hj => ?_, fun j hj => ?_, fun j hj => ?_, fun j hj => ?_, fun j hj => ?_, fun j hj => ?_, fun j hj => ?_, fun j hj => ?_, fun j hj => ?_⟩
        · simp [s_set, g53, g54, g55, g56, g57]
          exact hO c g53 g54 g55 g56 g57
        · simp only [s_set, u_at]
          have e45 : M 45 i = M0 45 i := by rw [hO 45 (by decide) (by decide) (by decide) (by decide) (by decide)]
          by_cases y : j = i
          · subst y; simp [u_at, e45]
          · simp [u_at, y]; exact a53 j (by omega)
        · simp only [s_set, u_at]
          have y : ¬ j = i := by omega
          simp [u_at, y]; exact b53 j (by omega)
        · simp only [s_set, u_at]
          have e46 : M 46 i = M0 46 i := by rw [hO 46 (by decide) (by decide) (by decide) (by decide) (by decide)]
          by_cases y : j = i
          · subst y; simp [u_at, e46]
          · simp [u_at, y]; exact a54 j (by omega)
        · simp only [s_set, u_at]
          have y : ¬ j = i := by omega
          simp [u_at, y]; exact b54 j (by omega)
        · simp only [s_set, u_at]
          have e47 : M 47 i = M0 47 i := by rw [hO 47 (by decide) (by decide) (by decide) (by decide) (by decide)]
          by_cases y : j = i
          · subst y; simp [u_at, e47]
          · simp [u_at, y]; exact a55 j (by omega)
        · simp only [s_set, u_at]
          have y : ¬ j = i := by omega
          simp [u_at, y]; exact b55 j (by omega)
        · simp only [s_set, u_at]
          have e48 : M 48 i = M0 48 i := by rw [hO 48 (by decide) (by decide) (by decide) (by decide) (by decide)]
          by_cases y : j = i
          · subst y; simp [u_at, e48]
          · simp [u_at, y]; exact a56 j (by omega)
        · simp only [s_set, u_at]
          have y : ¬ j = i := by omega
          simp [u_at, y]; exact b56 j (by omega)
        · simp only [s_set, u_at]
          have e49 : M 49 i = M0 49 i := by rw [hO 49 (by decide) (by decide) (by decide) (by decide) (by decide)]
          by_cases y : j = i
          · subst y; simp [u_at, e49]
          · simp [u_at, y]; exact a57 j (by omega)
        · simp only [s_set, u_at]
          have y : ¬ j = i := by omega
          simp [u_at, y]; exact b57 j (by omega)
      obtain ⟨n', M', g1, g2, g3, g4⟩ := ih (i + 1) r _ (by omega) (by omega) hI2
      exact ⟨n', M', g1, g2, g3, fun h => ⟨fun h => absurd h q, fun _ => ⟨v, v, v, v, v, v, v, v, v, v, g4 h⟩⟩⟩
def kp_keep1I (i : Nat) (M0 M : Nat → Nat → Int32) : Prop := (∀ c, c ≠ 58 → M c = M0 c) ∧ (∀ j, j < i → M 58 j = M0 50 j) ∧ (∀ j, i ≤ j → M 58 j = M0 58 j)
theorem kp_keep1 {M0 : Nat → Nat → Int32} : ∀ (n i r : Nat) (M : Nat → Nat → Int32), i ≤ 4 → 4 - i + 1 + r ≤ n → kp_keep1I i M0 M → ∃ n' M', r ≤ n' ∧ kp_keep1I 4 M0 M' ∧ (fk_m_keep n).2.1 (nI i) M = (fk_m_keep n').2.2 0 M' ∧ ((dk_m_keep n').2.2 0 M' → (dk_m_keep n).2.1 (nI i) M) := by
  intro n
  induction n with
  | zero => intro i r M h1 h2; omega
  | succ n ih =>
    intro i r M h1 h2 hI
    rw [fe_m_keep_1, de_m_keep_1]
    by_cases q : (4 : Int32) ≤ nI i
    · have z : 4 ≤ i := (nI_leI (by decide) (by omega)).1 (show nI 4 ≤ nI i from q)
      have e : i = 4 := by omega
      subst e
      rw [if_pos q]
      exact ⟨n, M, by omega, hI, rfl, fun h => ⟨fun _ => h, fun h => absurd q h⟩⟩
    · have z : i < 4 := by
        rcases Nat.lt_or_ge i 4 with z | z
        · exact z
        · exact absurd (show nI 4 ≤ nI i from nI_le z (by omega)) q
      rw [if_neg q, nI_clamp (by omega : i < 2 ^ 31), nI_1]
      have v : vp_in (nI i) 4 := vp_in_nI z (by decide)
      obtain ⟨hO, a58, b58⟩ := hI
      have hI2 : kp_keep1I (i + 1) M0 (xj_set M 58 i (M 50 i)) := by
        refine ⟨fun c g58 => ?_, fun j hj => ?_, fun j hj => ?_⟩
        · simp [s_set, g58]
          exact hO c g58
        · simp only [s_set, u_at]
          have e50 : M 50 i = M0 50 i := by rw [hO 50 (by decide)]
          by_cases y : j = i
          · subst y; simp [u_at, e50]
          · simp [u_at, y]; exact a58 j (by omega)
        · simp only [s_set, u_at]
          have y : ¬ j = i := by omega
          simp [u_at, y]; exact b58 j (by omega)
      obtain ⟨n', M', g1, g2, g3, g4⟩ := ih (i + 1) r _ (by omega) (by omega) hI2
      exact ⟨n', M', g1, g2, g3, fun h => ⟨fun h => absurd h q, fun _ => ⟨v, v, g4 h⟩⟩⟩
def kp_keep2I (i : Nat) (M0 M : Nat → Nat → Int32) : Prop := (∀ c, c ≠ 59 → c ≠ 60 → M c = M0 c) ∧ (∀ j, j < i → M 59 j = M0 51 j) ∧ (∀ j, i ≤ j → M 59 j = M0 59 j) ∧ (∀ j, j < i → M 60 j = M0 52 j) ∧ (∀ j, i ≤ j → M 60 j = M0 60 j)
theorem kp_keep2 {M0 : Nat → Nat → Int32} : ∀ (n i r : Nat) (M : Nat → Nat → Int32), i ≤ 48 → 48 - i + 1 + r ≤ n → kp_keep2I i M0 M → ∃ n' M', r ≤ n' ∧ kp_keep2I 48 M0 M' ∧ (fk_m_keep n).2.2 (nI i) M = (0, xj_set (xj_set M' 32 37 0) 32 38 0) ∧ (True → (dk_m_keep n).2.2 (nI i) M) := by
  intro n
  induction n with
  | zero => intro i r M h1 h2; omega
  | succ n ih =>
    intro i r M h1 h2 hI
    rw [fe_m_keep_2, de_m_keep_2]
    by_cases q : (48 : Int32) ≤ nI i
    · have z : 48 ≤ i := (nI_leI (by decide) (by omega)).1 (show nI 48 ≤ nI i from q)
      have e : i = 48 := by omega
      subst e
      rw [if_pos q]
      exact ⟨n, M, by omega, hI, rfl, fun h => ⟨fun _ => trivial, fun h => absurd q h⟩⟩
    · have z : i < 48 := by
        rcases Nat.lt_or_ge i 48 with z | z
        · exact z
        · exact absurd (show nI 48 ≤ nI i from nI_le z (by omega)) q
      rw [if_neg q, nI_clamp (by omega : i < 2 ^ 31), nI_1]
      have v : vp_in (nI i) 48 := vp_in_nI z (by decide)
      obtain ⟨hO, a59, b59, a60, b60⟩ := hI
      have hI2 : kp_keep2I (i + 1) M0 (xj_set (xj_set M 59 i (M 51 i)) 60 i (M 52 i)) := by
        refine ⟨fun c g59 g60 => ?_, fun j hj => ?_, fun j hj => ?_, fun j hj => ?_, fun j hj => ?_⟩
        · simp [s_set, g59, g60]
          exact hO c g59 g60
        · simp only [s_set, u_at]
          have e51 : M 51 i = M0 51 i := by rw [hO 51 (by decide) (by decide)]
          by_cases y : j = i
          · subst y; simp [u_at, e51]
          · simp [u_at, y]; exact a59 j (by omega)
        · simp only [s_set, u_at]
          have y : ¬ j = i := by omega
          simp [u_at, y]; exact b59 j (by omega)
        · simp only [s_set, u_at]
          have e52 : M 52 i = M0 52 i := by rw [hO 52 (by decide) (by decide)]
          by_cases y : j = i
          · subst y; simp [u_at, e52]
          · simp [u_at, y]; exact a60 j (by omega)
        · simp only [s_set, u_at]
          have y : ¬ j = i := by omega
          simp [u_at, y]; exact b60 j (by omega)
      obtain ⟨n', M', g1, g2, g3, g4⟩ := ih (i + 1) r _ (by omega) (by omega) hI2
      exact ⟨n', M', g1, g2, g3, fun h => ⟨fun h => absurd h q, fun _ => ⟨v, v, v, v, g4 h⟩⟩⟩
def kp_putBack0I (i : Nat) (M0 M : Nat → Nat → Int32) : Prop := (∀ c, c ≠ 45 → c ≠ 46 → c ≠ 47 → c ≠ 48 → c ≠ 49 → M c = M0 c) ∧ (∀ j, j < i → M 45 j = M0 53 j) ∧ (∀ j, i ≤ j → M 45 j = M0 45 j) ∧ (∀ j, j < i → M 46 j = M0 54 j) ∧ (∀ j, i ≤ j → M 46 j = M0 46 j) ∧ (∀ j, j < i → M 47 j = M0 55 j) ∧ (∀ j, i ≤ j → M 47 j = M0 47 j) ∧ (∀ j, j < i → M 48 j = M0 56 j) ∧ (∀ j, i ≤ j → M 48 j = M0 48 j) ∧ (∀ j, j < i → M 49 j = M0 57 j) ∧ (∀ j, i ≤ j → M 49 j = M0 49 j)
theorem kp_putBack0 {M0 : Nat → Nat → Int32} : ∀ (n i r : Nat) (M : Nat → Nat → Int32), i ≤ 40 → 40 - i + 1 + r ≤ n → kp_putBack0I i M0 M → ∃ n' M', r ≤ n' ∧ kp_putBack0I 40 M0 M' ∧ (fk_m_putBack n).1 (nI i) M = (fk_m_putBack n').2.1 0 M' ∧ ((dk_m_putBack n').2.1 0 M' → (dk_m_putBack n).1 (nI i) M) := by
  intro n
  induction n with
  | zero => intro i r M h1 h2; omega
  | succ n ih =>
    intro i r M h1 h2 hI
    rw [fe_m_putBack_0, de_m_putBack_0]
    by_cases q : (40 : Int32) ≤ nI i
    · have z : 40 ≤ i := (nI_leI (by decide) (by omega)).1 (show nI 40 ≤ nI i from q)
      have e : i = 40 := by omega
      subst e
      rw [if_pos q]
      exact ⟨n, M, by omega, hI, rfl, fun h => ⟨fun _ => h, fun h => absurd q h⟩⟩
    · have z : i < 40 := by
        rcases Nat.lt_or_ge i 40 with z | z
        · exact z
        · exact absurd (show nI 40 ≤ nI i from nI_le z (by omega)) q
      rw [if_neg q, nI_clamp (by omega : i < 2 ^ 31), nI_1]
      have v : vp_in (nI i) 40 := vp_in_nI z (by decide)
      obtain ⟨hO, a45, b45, a46, b46, a47, b47, a48, b48, a49, b49⟩ := hI
      have hI2 : kp_putBack0I (i + 1) M0 (xj_set (xj_set (xj_set (xj_set (xj_set M 45 i (M 53 i)) 46 i (M 54 i)) 47 i (M 55 i)) 48 i (M 56 i)) 49 i (M 57 i)) := by
        refine ⟨fun c g45 g46 g47 g48 g49 => ?_, fun j hj => ?_, fun j hj => ?_, fun j hj => ?_, fun j hj => ?_, fun j hj => ?_, fun j hj => ?_, fun j hj => ?_, fun j hj => ?_, fun j hj => ?_, fun j hj => ?_⟩
        · simp [s_set, g45, g46, g47, g48, g49]
          exact hO c g45 g46 g47 g48 g49
        · simp only [s_set, u_at]
          have e53 : M 53 i = M0 53 i := by rw [hO 53 (by decide) (by decide) (by decide) (by decide) (by decide)]
          by_cases y : j = i
          · subst y; simp [u_at, e53]
          · simp [u_at, y]; exact a45 j (by omega)
        · simp only [s_set, u_at]
          have y : ¬ j = i := by omega
          simp [u_at, y]; exact b45 j (by omega)
        · simp only [s_set, u_at]
          have e54 : M 54 i = M0 54 i := by rw [hO 54 (by decide) (by decide) (by decide) (by decide) (by decide)]
          by_cases y : j = i
          · subst y; simp [u_at, e54]
          · simp [u_at, y]; exact a46 j (by omega)
        · simp only [s_set, u_at]
          have y : ¬ j = i := by omega
          simp [u_at, y]; exact b46 j (by omega)
        · simp only [s_set, u_at]
          have e55 : M 55 i = M0 55 i := by rw [hO 55 (by decide) (by decide) (by decide) (by decide) (by decide)]
          by_cases y : j = i
          · subst y; simp [u_at, e55]
          · simp [u_at, y]; exact a47 j (by omega)
        · simp only [s_set, u_at]
          have y : ¬ j = i := by omega
          simp [u_at, y]; exact b47 j (by omega)
        · simp only [s_set, u_at]
          have e56 : M 56 i = M0 56 i := by rw [hO 56 (by decide) (by decide) (by decide) (by decide) (by decide)]
          by_cases y : j = i
          · subst y; simp [u_at, e56]
          · simp [u_at, y]; exact a48 j (by omega)
        · simp only [s_set, u_at]
          have y : ¬ j = i := by omega
          simp [u_at, y]; exact b48 j (by omega)
        · simp only [s_set, u_at]
          have e57 : M 57 i = M0 57 i := by rw [hO 57 (by decide) (by decide) (by decide) (by decide) (by decide)]
          by_cases y : j = i
          · subst y; simp [u_at, e57]
          · simp [u_at, y]; exact a49 j (by omega)
        · simp only [s_set, u_at]
          have y : ¬ j = i := by omega
          simp [u_at, y]; exact b49 j (by omega)
      obtain ⟨n', M', g1, g2, g3, g4⟩ := ih (i + 1) r _ (by omega) (by omega) hI2
      exact ⟨n', M', g1, g2, g3, fun h => ⟨fun h => absurd h q, fun _ => ⟨v, v, v, v, v, v, v, v, v, v, g4 h⟩⟩⟩
def kp_putBack1I (i : Nat) (M0 M : Nat → Nat → Int32) : Prop := (∀ c, c ≠ 50 → M c = M0 c) ∧ (∀ j, j < i → M 50 j = M0 58 j) ∧ (∀ j, i ≤ j → M 50 j = M0 50 j)
theorem kp_putBack1 {M0 : Nat → Nat → Int32} : ∀ (n i r : Nat) (M : Nat → Nat → Int32), i ≤ 4 → 4 - i + 1 + r ≤ n → kp_putBack1I i M0 M → ∃ n' M', r ≤ n' ∧ kp_putBack1I 4 M0 M' ∧ (fk_m_putBack n).2.1 (nI i) M = (fk_m_putBack n').2.2 0 M' ∧ ((dk_m_putBack n').2.2 0 M' → (dk_m_putBack n).2.1 (nI i) M) := by
  intro n
  induction n with
  | zero => intro i r M h1 h2; omega
  | succ n ih =>
    intro i r M h1 h2 hI
    rw [fe_m_putBack_1, de_m_putBack_1]
    by_cases q : (4 : Int32) ≤ nI i
    · have z : 4 ≤ i := (nI_leI (by decide) (by omega)).1 (show nI 4 ≤ nI i from q)
      have e : i = 4 := by omega
      subst e
      rw [if_pos q]
      exact ⟨n, M, by omega, hI, rfl, fun h => ⟨fun _ => h, fun h => absurd q h⟩⟩
    · have z : i < 4 := by
        rcases Nat.lt_or_ge i 4 with z | z
        · exact z
        · exact absurd (show nI 4 ≤ nI i from nI_le z (by omega)) q
      rw [if_neg q, nI_clamp (by omega : i < 2 ^ 31), nI_1]
      have v : vp_in (nI i) 4 := vp_in_nI z (by decide)
      obtain ⟨hO, a50, b50⟩ := hI
      have hI2 : kp_putBack1I (i + 1) M0 (xj_set M 50 i (M 58 i)) := by
        refine ⟨fun c g50 => ?_, fun j hj => ?_, fun j hj => ?_⟩
        · simp [s_set, g50]
          exact hO c g50
        · simp only [s_set, u_at]
          have e58 : M 58 i = M0 58 i := by rw [hO 58 (by decide)]
          by_cases y : j = i
          · subst y; simp [u_at, e58]
          · simp [u_at, y]; exact a50 j (by omega)
        · simp only [s_set, u_at]
          have y : ¬ j = i := by omega
          simp [u_at, y]; exact b50 j (by omega)
      obtain ⟨n', M', g1, g2, g3, g4⟩ := ih (i + 1) r _ (by omega) (by omega) hI2
      exact ⟨n', M', g1, g2, g3, fun h => ⟨fun h => absurd h q, fun _ => ⟨v, v, g4 h⟩⟩⟩
def kp_putBack2I (i : Nat) (M0 M : Nat → Nat → Int32) : Prop := (∀ c, c ≠ 51 → c ≠ 52 → M c = M0 c) ∧ (∀ j, j < i → M 51 j = M0 59 j) ∧ (∀ j, i ≤ j → M 51 j = M0 51 j) ∧ (∀ j, j < i → M 52 j = M0 60 j) ∧ (∀ j, i ≤ j → M 52 j = M0 52 j)
theorem kp_putBack2 {M0 : Nat → Nat → Int32} : ∀ (n i r : Nat) (M : Nat → Nat → Int32), i ≤ 48 → 48 - i + 1 + r ≤ n → kp_putBack2I i M0 M → ∃ n' M', r ≤ n' ∧ kp_putBack2I 48 M0 M' ∧ (fk_m_putBack n).2.2 (nI i) M = (0, M') ∧ (True → (dk_m_putBack n).2.2 (nI i) M) := by
  intro n
  induction n with
  | zero => intro i r M h1 h2; omega
  | succ n ih =>
    intro i r M h1 h2 hI
    rw [fe_m_putBack_2, de_m_putBack_2]
    by_cases q : (48 : Int32) ≤ nI i
    · have z : 48 ≤ i := (nI_leI (by decide) (by omega)).1 (show nI 48 ≤ nI i from q)
      have e : i = 48 := by omega
      subst e
      rw [if_pos q]
      exact ⟨n, M, by omega, hI, rfl, fun h => ⟨fun _ => trivial, fun h => absurd q h⟩⟩
    · have z : i < 48 := by
        rcases Nat.lt_or_ge i 48 with z | z
        · exact z
        · exact absurd (show nI 48 ≤ nI i from nI_le z (by omega)) q
      rw [if_neg q, nI_clamp (by omega : i < 2 ^ 31), nI_1]
      have v : vp_in (nI i) 48 := vp_in_nI z (by decide)
      obtain ⟨hO, a51, b51, a52, b52⟩ := hI
      have hI2 : kp_putBack2I (i + 1) M0 (xj_set (xj_set M 51 i (M 59 i)) 52 i (M 60 i)) := by
        refine ⟨fun c g51 g52 => ?_, fun j hj => ?_, fun j hj => ?_, fun j hj => ?_, fun j hj => ?_⟩
        · simp [s_set, g51, g52]
          exact hO c g51 g52
        · simp only [s_set, u_at]
          have e59 : M 59 i = M0 59 i := by rw [hO 59 (by decide) (by decide)]
          by_cases y : j = i
          · subst y; simp [u_at, e59]
          · simp [u_at, y]; exact a51 j (by omega)
        · simp only [s_set, u_at]
          have y : ¬ j = i := by omega
          simp [u_at, y]; exact b51 j (by omega)
        · simp only [s_set, u_at]
          have e60 : M 60 i = M0 60 i := by rw [hO 60 (by decide) (by decide)]
          by_cases y : j = i
          · subst y; simp [u_at, e60]
          · simp [u_at, y]; exact a52 j (by omega)
        · simp only [s_set, u_at]
          have y : ¬ j = i := by omega
          simp [u_at, y]; exact b52 j (by omega)
      obtain ⟨n', M', g1, g2, g3, g4⟩ := ih (i + 1) r _ (by omega) (by omega) hI2
      exact ⟨n', M', g1, g2, g3, fun h => ⟨fun h => absurd h q, fun _ => ⟨v, v, v, v, g4 h⟩⟩⟩
