/-! the class's cells beside the model's; the methods that change nothing answer alike -/
def yP (S M : Nat → Nat → Int32) : Prop := M 32 1 = S 1 0 ∧ M 33 = S 2 ∧ M 34 = S 3 ∧ M 35 = S 4 ∧ M 32 5 = S 1 5 ∧ M 36 = S 6 ∧ M 37 = S 7 ∧ M 38 = S 8 ∧ M 39 = S 9 ∧ M 42 = S 12 ∧ M 44 = S 13 ∧ (∀ k, S 9 k < 100 → M 40 k = S 10 k) ∧ (∀ u : Int32, 0 ≤ u → u < S 1 5 → (M 41 (u).toNatClampNeg = 0 ∧ S 11 (u).toNatClampNeg = -1) ∨ (M 41 (u).toNatClampNeg = 1 ∧ S 11 (u).toNatClampNeg = M 43 (u).toNatClampNeg ∧ 0 ≤ M 43 (u).toNatClampNeg ∧ M 43 (u).toNatClampNeg ≤ 2))
def yL (S M : Nat → Nat → Int32) : Prop := M 32 17 = S 14 1 ∧ M 45 = S 15 ∧ M 46 = S 16 ∧ M 47 = S 17 ∧ M 48 = S 18 ∧ M 49 = S 19 ∧ M 50 = S 20 ∧ M 32 24 = S 14 8 ∧ M 51 = S 21 ∧ M 52 = S 22
def yI (S : Nat → Nat → Int32) : Prop := (∀ s, 0 ≤ S 2 s ∧ S 2 s ≤ 3) ∧ S 3 0 = -1 ∧ S 4 0 = 0 ∧ (∀ u : Int32, 0 < u → u < 12 → S 3 (u).toNatClampNeg < u) ∧ (∀ u : Int32, 0 ≤ u → u < S 1 5 → 1 ≤ S 6 (u).toNatClampNeg) ∧ (∀ k, 100 ≤ S 9 k → S 10 k = -1) ∧ (∀ i b, i < 12 → b < 32 → xb (S 5 i) b = decide (b / 2 < (S 1 5).toNatClampNeg ∧ S 6 (b / 2) = nI i)) ∧ (∀ s, (S 1 5).toNatClampNeg ≤ s → S 8 s = 0)
def yK (S : Nat → Nat → Int32) : Prop := (∀ k, 0 ≤ S 17 k ∧ S 17 k ≤ 6) ∧
  (∀ u : Int32, 0 ≤ u → u < S 14 1 → 0 ≤ S 16 (u).toNatClampNeg → S 15 (S 16 (u).toNatClampNeg).toNatClampNeg < S 15 (u).toNatClampNeg) ∧
  (∀ u : Int32, 0 ≤ u → u < S 14 1 → S 16 (u).toNatClampNeg = -1 → S 15 (u).toNatClampNeg = 0) ∧
  (∀ u : Int32, 0 ≤ u → u < S 14 1 → 2 ≤ S 2 (S 15 (u).toNatClampNeg).toNatClampNeg → S 17 (u).toNatClampNeg = 0 ∨ S 17 (u).toNatClampNeg = 4 ∨ S 17 (u).toNatClampNeg = 5) ∧
  (∀ u : Int32, 0 ≤ u → u < S 14 1 → S 17 (u).toNatClampNeg = 6 → S 2 (S 15 (u).toNatClampNeg).toNatClampNeg = 1) ∧
  (∀ (u : Int32) (b : Nat), 0 ≤ u → u < S 14 1 → b < 32 → xb (S 19 (u).toNatClampNeg) b = true → b / 2 < (S 1 5).toNatClampNeg ∧ b % 2 < (S 8 (b / 2)).toNatClampNeg ∧ S 6 (b / 2) = S 15 (u).toNatClampNeg) ∧
  (∀ k : Nat, (S 14 1).toNatClampNeg ≤ k → S 18 k = 0 ∧ S 19 k = 0) ∧
  (∀ u : Int32, 0 ≤ u → u < S 14 1 → S 16 (u).toNatClampNeg < S 14 1)
def yN (S : Nat → Nat → Int32) : Prop := ∀ u : Int32, 0 ≤ u → u < S 14 1 → S 16 (u).toNatClampNeg = -1 → S 17 (u).toNatClampNeg ≠ 0
theorem yE_of {S M : Nat → Nat → Int32} (hp : yP S M) (hl : yL S M) (hd : yD S) : yE M := by
  obtain ⟨p1, p33, p34, p35, p5, p36, p37, p38, p39, p42, p44, p40, p43⟩ := hp
  obtain ⟨l17, l45, l46, l47, l48, l49, l50, l24, l51, l52⟩ := hl
  unfold yE
  rw [p1, p5, p36, p38, p42, l17, l45, l46]
  exact hd
section YQ
variable {S M : Nat → Nat → Int32} {a b : Int32}
theorem q_isFinal (hl : yL S M) : r_m_isFinal M a = r_l_isFinal S a := by
  obtain ⟨l17, l45, l46, l47, l48, l49, l50, l24, l51, l52⟩ := hl
  simp only [r_m_isFinal, r_l_isFinal, l47]
theorem q_kindOf (hp : yP S M) (hl : yL S M) : r_m_kindOf M a = S 2 (S 15 (a).toNatClampNeg).toNatClampNeg := by
  obtain ⟨p1, p33, p34, p35, p5, p36, p37, p38, p39, p42, p44, p40, p43⟩ := hp
  obtain ⟨l17, l45, l46, l47, l48, l49, l50, l24, l51, l52⟩ := hl
  simp only [r_m_kindOf, p33, l45]
theorem q_hasFlag (hp : yP S M) (hl : yL S M) : r_m_hasFlag M a b = r_p_hasFlag S (S 15 (a).toNatClampNeg) b := by
  obtain ⟨p1, p33, p34, p35, p5, p36, p37, p38, p39, p42, p44, p40, p43⟩ := hp
  obtain ⟨l17, l45, l46, l47, l48, l49, l50, l24, l51, l52⟩ := hl
  simp only [r_m_hasFlag, r_p_hasFlag, p35, l45]
theorem q_hasEntry1 (n : Nat) : ∀ u, 0 ≤ u → u ≤ M 32 5 → M 32 5 ≤ 16 → (16 : Int) < u.toInt + n → rl0_m_hasEntry n M a 1 u = 1 := by
  intro u h0 h1 h2 h3
  refine l_ind (M 32 5) 16 (by have := Int32.le_iff_toInt_le.1 h2; exact this) (fun n u => rl0_m_hasEntry n M a 1 u = 1) (fun n => ?_) (fun n u h0 h1 ih => ?_) n u h0 h1 h3
  · show rl0_m_hasEntry (n + 1) M a 1 _ = 1
    unfold rl0_m_hasEntry
    exact if_pos (Int32.le_refl _)
  · show rl0_m_hasEntry (n + 1) M a 1 u = 1
    unfold rl0_m_hasEntry
    rw [if_neg (by grind), if_pos (by decide)]
    exact ih
theorem q_hasEntry (hp : yP S M) (hl : yL S M) (hd : yD S) : r_m_hasEntry M a = r_p_hasEntry S (S 15 (a).toNatClampNeg) := by
  obtain ⟨p1, p33, p34, p35, p5, p36, p37, p38, p39, p42, p44, p40, p43⟩ := hp
  obtain ⟨l17, l45, l46, l47, l48, l49, l50, l24, l51, l52⟩ := hl
  obtain ⟨d1, d2, d3, d4, d6, d8, d12, d14a, d14b, d15, d16⟩ := hd
  unfold r_m_hasEntry r_p_hasEntry
  have key : ∀ (n : Nat) (u : Int32), 0 ≤ u → u ≤ S 1 5 → (16 : Int) < u.toInt + n → rl0_m_hasEntry n M a 0 u = rl0_p_hasEntry n S (S 15 (a).toNatClampNeg) u := by
    intro n
    induction n with
    | zero =>
      intro u h0 h1 h
      rfl
    | succ n ih =>
      intro u h0 h1 h
      unfold rl0_m_hasEntry rl0_p_hasEntry
      rw [p5, p36, p37, l45]
      by_cases q : S 1 5 ≤ u
      · rw [if_pos q, if_pos q]
      · rw [if_neg q, if_neg q, if_neg (by decide)]
        have e := i_t1 h0 (by grind : u < S 1 5)
        have g0 := ih (u + 1) (by grind) (by grind) (by rw [e]; omega)
        have g1 := q_hasEntry1 (M := M) (a := a) n (u + 1) (by grind) (by rw [p5]; grind) (by rw [p5]; exact d4) (by rw [e]; omega)
        rw [g0, g1]
  exact key 200 0 (by decide) d3 (by decide)
theorem q_parentActive (hl : yL S M) (hd : yD S) : r_m_parentActive M a = if S 16 (a).toNatClampNeg = -1 then 0 else r_c_parentLets S a := by
  obtain ⟨l17, l45, l46, l47, l48, l49, l50, l24, l51, l52⟩ := hl
  obtain ⟨d1, d2, d3, d4, d6, d8, d12, d14a, d14b, d15, d16⟩ := hd
  have := d16 (a).toNatClampNeg
  simp only [r_m_parentActive, r_c_parentLets, l46, l47]
  grind
theorem q_follows (hl : yL S M) : r_m_follows M a b = if b = 5 then (if S 17 (a).toNatClampNeg = 2 then 1 else 0) else if b = 6 then (if S 17 (a).toNatClampNeg = 3 then 1 else 0) else (if r_l_isFinal S a = 0 then 1 else 0) := by
  have g := q_isFinal (a := a) hl
  obtain ⟨l17, l45, l46, l47, l48, l49, l50, l24, l51, l52⟩ := hl
  simp only [r_m_follows, g, l47]
  grind
theorem q_if (hp : yP S M) (hl : yL S M) (h0 : 0 ≤ a) (h1 : a < S 1 5) : r_p_ifPartHolds S a = if M 41 (a).toNatClampNeg = 0 then 1 else (if M 43 (a).toNatClampNeg ≠ 0 then (if M 43 (a).toNatClampNeg ≠ 1 then (if M 50 (M 42 (a).toNatClampNeg).toNatClampNeg ≤ M 44 (a).toNatClampNeg then 0 else 1) else (if M 50 (M 42 (a).toNatClampNeg).toNatClampNeg ≠ M 44 (a).toNatClampNeg then 0 else 1)) else (if M 44 (a).toNatClampNeg ≤ M 50 (M 42 (a).toNatClampNeg).toNatClampNeg then 0 else 1)) := by
  obtain ⟨p1, p33, p34, p35, p5, p36, p37, p38, p39, p42, p44, p40, p43⟩ := hp
  obtain ⟨l17, l45, l46, l47, l48, l49, l50, l24, l51, l52⟩ := hl
  have g := p43 a h0 h1
  unfold r_p_ifPartHolds
  rw [p42, p44, l50]
  grind
theorem q_sat0 (n : Nat) : ∀ u, rl0_m_satisfied n M a b 0 u = 0 := by
  induction n with
  | zero => intro u; rfl
  | succ n ih =>
    intro u
    unfold rl0_m_satisfied
    rw [if_pos rfl, if_pos rfl, ih]
    split <;> rfl
theorem q_satisfied (hp : yP S M) (hl : yL S M) (hd : yD S) (h0 : 0 ≤ a) (h1 : a < S 1 5) : r_m_satisfied M a b = r_p_isSatisfied S a (S 19 (b).toNatClampNeg) := by
  have g := q_if hp hl h0 h1
  obtain ⟨p1, p33, p34, p35, p5, p36, p37, p38, p39, p42, p44, p40, p43⟩ := hp
  obtain ⟨l17, l45, l46, l47, l48, l49, l50, l24, l51, l52⟩ := hl
  obtain ⟨d1, d2, d3, d4, d6, d8, d12, d14a, d14b, d15, d16⟩ := hd
  unfold r_m_satisfied r_p_isSatisfied
  obtain ⟨s, hs, rfl⟩ := i_of h0
  have hs16 : s < 16 := by
    have z : nI s < nI 16 := by
      have : nI s < 16 := by grind
      exact this
    exact (nI_ltI hs (by decide)).1 z
  have key : ∀ (n : Nat) (u : Int32), 0 ≤ u → u ≤ S 8 (nI s).toNatClampNeg → rl0_m_satisfied n M (nI s) b 1 u = rl0_p_isSatisfied n S (nI s) (S 19 (b).toNatClampNeg) u := by
    intro n
    induction n with
    | zero =>
      intro u h0 h1
      rfl
    | succ n ih =>
      intro u h0 h1
      unfold rl0_m_satisfied rl0_p_isSatisfied
      rw [p38, g]
      by_cases q : S 8 (nI s).toNatClampNeg ≤ u
      · rw [if_pos q, if_pos q, if_neg (by decide)]
      · rw [if_neg q, if_neg q, if_neg (by decide), q_sat0, l49]
        have g0 := ih (u + 1) (by grind) (by grind)
        rw [g0]
        have hu : u < 2 := by have := d8 (nI s).toNatClampNeg; grind
        obtain ⟨p, hp, rfl⟩ := i_of h0
        have hp2 : p < 2 := (nI_ltI hp (by decide)).1 (show nI p < nI 2 from hu)
        unfold r_p_partBit
        rw [pk_2, pk_2']
        have t1 := xb_test (2 * s + p) (by omega) (S 19 (b).toNatClampNeg)
        have t2 := xb_mask (2 * s + p) (by omega) (S 19 (b).toNatClampNeg)
        cases hx : xb (S 19 (b).toNatClampNeg) (2 * s + p)
        · rw [if_pos (fun e => Bool.noConfusion (hx.symm.trans (t1.1 e))), if_neg (fun e => e (t2.2 hx))]
        · rw [if_neg (fun e => e (t1.2 hx)), if_pos (fun e => Bool.noConfusion (hx.symm.trans (t2.1 e)))]
  exact key 200 0 (by decide) (d8 _).1
theorem q_some1 (n : Nat) : ∀ u, 0 ≤ u → u ≤ M 32 5 → M 32 5 ≤ 16 → (16 : Int) < u.toInt + n → rl0_m_someSatisfied n M a b 1 u = 1 := by
  intro u h0 h1 h2 h3
  refine l_ind (M 32 5) 16 (by have := Int32.le_iff_toInt_le.1 h2; exact this) (fun n u => rl0_m_someSatisfied n M a b 1 u = 1) (fun n => ?_) (fun n u h0 h1 ih => ?_) n u h0 h1 h3
  · show rl0_m_someSatisfied (n + 1) M a b 1 _ = 1
    unfold rl0_m_someSatisfied
    exact if_pos (Int32.le_refl _)
  · show rl0_m_someSatisfied (n + 1) M a b 1 u = 1
    unfold rl0_m_someSatisfied
    rw [if_neg (by grind), if_pos (by decide)]
    exact ih
theorem q_someSatisfied (hp : yP S M) (hl : yL S M) (hd : yD S) : r_m_someSatisfied M a b = r_c_hasSatisfied S a b := by
  have hp' := hp
  have hl' := hl
  have hd' := hd
  obtain ⟨p1, p33, p34, p35, p5, p36, p37, p38, p39, p42, p44, p40, p43⟩ := hp
  obtain ⟨l17, l45, l46, l47, l48, l49, l50, l24, l51, l52⟩ := hl
  obtain ⟨d1, d2, d3, d4, d6, d8, d12, d14a, d14b, d15, d16⟩ := hd
  unfold r_m_someSatisfied r_c_hasSatisfied
  have key : ∀ (n : Nat) (u : Int32), 0 ≤ u → u ≤ S 1 5 → (16 : Int) < u.toInt + n → rl0_m_someSatisfied n M a b 0 u = rl0_c_hasSatisfied n S a b u := by
    intro n
    induction n with
    | zero =>
      intro u h0 h1 h
      rfl
    | succ n ih =>
      intro u h0 h1 h
      unfold rl0_m_someSatisfied rl0_c_hasSatisfied
      rw [p5, p36, p37, l45]
      by_cases q : S 1 5 ≤ u
      · rw [if_pos q, if_pos q]
      · rw [if_neg q, if_neg q, if_neg (by decide)]
        have hu : u < S 1 5 := by grind
        have e := i_t1 h0 hu
        have g0 := ih (u + 1) (by grind) (by grind) (by rw [e]; omega)
        have g1 := q_some1 (M := M) (a := a) (b := b) n (u + 1) (by grind) (by rw [p5]; grind) (by rw [p5]; exact d4) (by rw [e]; omega)
        have g2 := q_satisfied (b := a) hp' hl' hd' h0 hu
        rw [g0, g1, g2]
  exact key 200 0 (by decide) d3 (by decide)
theorem q_sett0 (n : Nat) : ∀ u, rl0_m_settled n M a 0 u = 0 := by
  induction n with
  | zero => intro u; rfl
  | succ n ih =>
    intro u
    unfold rl0_m_settled
    rw [ih]
    grind
theorem q_settled (hp : yP S M) (hl : yL S M) (hk : yK S) : r_m_settled M a = r_c_isSettled S a := by
  have hp' := hp
  have hl' := hl
  obtain ⟨p1, p33, p34, p35, p5, p36, p37, p38, p39, p42, p44, p40, p43⟩ := hp
  obtain ⟨l17, l45, l46, l47, l48, l49, l50, l24, l51, l52⟩ := hl
  obtain ⟨k1, k2, k3, k4, k5, k6, k7, k8⟩ := hk
  unfold r_m_settled r_c_isSettled
  have key : ∀ (n : Nat) (u : Int32), rl0_m_settled n M a 1 u = rl0_c_isSettled n S a u := by
    intro n
    induction n with
    | zero =>
      intro u
      rfl
    | succ n ih =>
      intro u
      have k := k1 (u).toNatClampNeg
      unfold rl0_m_settled rl0_c_isSettled
      have g0 := ih (u + 1)
      rw [g0, q_sett0, q_hasFlag hp' hl', l17, l46, l47]
      unfold r_l_isFinal r_l_isWaiting
      grind
  exact key 200 0
theorem q_done0 (n : Nat) : ∀ u, rl0_m_done n M a 0 u = 0 := by
  induction n with
  | zero => intro u; rfl
  | succ n ih =>
    intro u
    unfold rl0_m_done
    rw [ih]
    grind
theorem rr_isSettled (n : Nat) : ∀ u, rl0_c_isSettled n S a u = 0 ∨ rl0_c_isSettled n S a u = 1 := by
  induction n with
  | zero => intro u; exact Or.inl rfl
  | succ n ih =>
    intro u
    have g := ih (u + 1)
    unfold rl0_c_isSettled
    grind
theorem q_done (hp : yP S M) (hl : yL S M) (hd : yD S) (hk : yK S) : r_m_done M a = r_c_isDone S a := by
  have g := q_settled (a := a) hp hl hk
  have hf := q_hasFlag (a := a) (b := 8) hp hl
  have hr : r_c_isSettled S a = 0 ∨ r_c_isSettled S a = 1 := rr_isSettled 200 0
  obtain ⟨p1, p33, p34, p35, p5, p36, p37, p38, p39, p42, p44, p40, p43⟩ := hp
  obtain ⟨l17, l45, l46, l47, l48, l49, l50, l24, l51, l52⟩ := hl
  obtain ⟨d1, d2, d3, d4, d6, d8, d12, d14a, d14b, d15, d16⟩ := hd
  unfold r_m_done r_c_isDone
  rw [g]
  rcases hr with hr | hr
  · rw [hr, q_done0, if_pos rfl]
  · rw [hr, if_neg (by decide)]
    have key : ∀ (n : Nat) (u : Int32), 0 ≤ u → u ≤ S 14 1 → (40 : Int) < u.toInt + n → rl0_m_done n M a 1 u = (if r_p_hasFlag S (S 15 (a).toNatClampNeg) 8 ≠ 0 then 1 else if rl0_c_hasWaitingChild n S a u ≠ 0 then 0 else 1) := by
      intro n u h0 h1 h
      refine l_ind (S 14 1) 40 (by have := Int32.le_iff_toInt_le.1 d14b; exact this) (fun n u => rl0_m_done n M a 1 u = (if r_p_hasFlag S (S 15 (a).toNatClampNeg) 8 ≠ 0 then 1 else if rl0_c_hasWaitingChild n S a u ≠ 0 then 0 else 1)) (fun n => ?_) (fun n u h0 h1 ih => ?_) n u h0 h1 h
      · show rl0_m_done (n + 1) M a 1 _ = _
        unfold rl0_m_done rl0_c_hasWaitingChild
        rw [l17, if_pos (Int32.le_refl _), if_pos (Int32.le_refl _)]
        grind
      · show rl0_m_done (n + 1) M a 1 u = _
        unfold rl0_m_done rl0_c_hasWaitingChild
        have ih' : rl0_m_done n M a 1 (u + 1) = _ := ih
        rw [ih', q_done0, hf, l17, l46, l47]
        unfold r_l_isWaiting
        grind
    rw [key 200 0 (by decide) d14a (by decide)]
    rfl
theorem q_noOwner (hi : yI S) (h : S 15 (a).toNatClampNeg = 0) : r_c_hasSatisfied S a b = 0 := by
  obtain ⟨i5, i6, i7, i8, i10, i13, i14, i15⟩ := hi
  unfold r_c_hasSatisfied
  have key : ∀ (n : Nat) (u : Int32), 0 ≤ u → rl0_c_hasSatisfied n S a b u = 0 := by
    intro n
    induction n with
    | zero => intro u _; rfl
    | succ n ih =>
      intro u h0
      unfold rl0_c_hasSatisfied
      by_cases q : S 1 5 ≤ u
      · rw [if_pos q]
      · rw [if_neg q]
        have g := i10 u h0 (by grind)
        rw [if_pos (by rw [h]; grind)]
        exact ih (u + 1) (by grind)
  exact key 200 0 (by decide)
theorem q_toExit (hp : yP S M) (hl : yL S M) (hd : yD S) (hi : yI S) (hk : yK S) : r_m_toExit M = r_c_lowestToExit S := by
  have hl' := hl
  have hd' := hd
  have hs := fun a => q_someSatisfied (a := a) (b := 1) hp hl hd
  have hn := fun a => q_noOwner (a := a) (b := 1) hi
  obtain ⟨l17, l45, l46, l47, l48, l49, l50, l24, l51, l52⟩ := hl
  obtain ⟨d1, d2, d3, d4, d6, d8, d12, d14a, d14b, d15, d16⟩ := hd
  obtain ⟨k1, k2, k3, k4, k5, k6, k7, k8⟩ := hk
  unfold r_m_toExit r_c_lowestToExit
  have key : ∀ (n : Nat) (u : Int32), 0 ≤ u → rl0_m_toExit n M u = rl0_c_lowestToExit n S u := by
    intro n
    induction n with
    | zero => intro u _; rfl
    | succ n ih =>
      intro u h0
      unfold rl0_m_toExit rl0_c_lowestToExit
      rw [l17]
      by_cases q : S 14 1 ≤ u
      · rw [if_pos q, if_pos q]
      · rw [if_neg q, if_neg q]
        have g0 := ih (u + 1) (by grind)
        rw [g0, q_isFinal hl', q_parentActive hl' hd', hs]
        have k := k3 u h0 (by grind)
        have k' := hn u
        have r : S 16 (u).toNatClampNeg = -1 → r_c_parentLets S u = 1 := fun e => if_pos e
        grind
  exact key 200 0 (by decide)
theorem q_toLetIn (hp : yP S M) (hl : yL S M) (hd : yD S) (hn : yN S) : r_m_toLetIn M = r_c_lowestToEnter S := by
  have hl' := hl
  have hd' := hd
  have hs := fun a => q_someSatisfied (a := a) (b := 0) hp hl hd
  have he := fun a => q_hasEntry (a := a) hp hl hd
  have hq := fun a => q_kindOf (a := a) hp hl
  obtain ⟨l17, l45, l46, l47, l48, l49, l50, l24, l51, l52⟩ := hl
  obtain ⟨d1, d2, d3, d4, d6, d8, d12, d14a, d14b, d15, d16⟩ := hd
  unfold r_m_toLetIn r_c_lowestToEnter
  have key : ∀ (n : Nat) (u : Int32), 0 ≤ u → rl0_m_toLetIn n M u = rl0_c_lowestToEnter n S u := by
    intro n
    induction n with
    | zero => intro u _; rfl
    | succ n ih =>
      intro u h0
      unfold rl0_m_toLetIn rl0_c_lowestToEnter
      rw [l17]
      by_cases q : S 14 1 ≤ u
      · rw [if_pos q, if_pos q]
      · rw [if_neg q, if_neg q]
        have g0 := ih (u + 1) (by grind)
        rw [g0, q_parentActive hl' hd', hs, he, hq, l47]
        have k := hn u h0 (by grind)
        grind
  exact key 200 0 (by decide)
theorem q_toComplete (hp : yP S M) (hl : yL S M) (hd : yD S) (hk : yK S) : r_m_toComplete M = r_c_lowestToComplete S := by
  have hl' := hl
  have hd' := hd
  have hs := fun a => q_done (a := a) hp hl hd hk
  have hq := fun a => q_kindOf (a := a) hp hl
  obtain ⟨l17, l45, l46, l47, l48, l49, l50, l24, l51, l52⟩ := hl
  obtain ⟨d1, d2, d3, d4, d6, d8, d12, d14a, d14b, d15, d16⟩ := hd
  unfold r_m_toComplete r_c_lowestToComplete
  have key : ∀ (n : Nat) (u : Int32), 0 ≤ u → rl0_m_toComplete n M u = rl0_c_lowestToComplete n S u := by
    intro n
    induction n with
    | zero => intro u _; rfl
    | succ n ih =>
      intro u h0
      unfold rl0_m_toComplete rl0_c_lowestToComplete
      rw [l17]
      by_cases q : S 14 1 ≤ u
      · rw [if_pos q, if_pos q]
      · rw [if_neg q, if_neg q]
        have g0 := ih (u + 1) (by grind)
        rw [g0, q_parentActive hl' hd', hs, hq, l46, l47]
        have k := d16 (u).toNatClampNeg
        have r : S 16 (u).toNatClampNeg = -1 → r_c_parentLets S u = 1 := fun e => if_pos e
        grind
  exact key 200 0 (by decide)
theorem q_allowed (hp : yP S M) (hl : yL S M) (hd : yD S) (hi : yI S) (hk : yK S) (h0 : 0 ≤ a) (h1 : a < S 14 1) (h2 : 2 ≤ b) (h9 : b ≤ 9) : (r_m_allowed M a b = 0 ↔ r_c_mayBeMoved S a b = 0) := by
  have hq := q_kindOf (a := a) hp hl
  have hs := q_settled (a := a) hp hl hk
  have hf := q_isFinal (a := a) hl
  have hpa := q_parentActive (a := a) hl hd
  obtain ⟨l17, l45, l46, l47, l48, l49, l50, l24, l51, l52⟩ := hl
  obtain ⟨d1, d2, d3, d4, d6, d8, d12, d14a, d14b, d15, d16⟩ := hd
  obtain ⟨k1, k2, k3, k4, k5, k6, k7, k8⟩ := hk
  obtain ⟨i5, _⟩ := hi
  have k := k4 a h0 h1
  have k' := k5 a h0 h1
  have k'' := i5 (S 15 (a).toNatClampNeg).toNatClampNeg
  have k9 := d16 (a).toNatClampNeg
  have r : S 16 (a).toNatClampNeg = -1 → r_c_parentLets S a = 1 := fun e => if_pos e
  unfold r_m_allowed r_c_mayBeMoved r_c_stateAndKindFit
  rw [hpa, hq, hs, hf, l46, l47]
  have hb : b = 2 ∨ b = 3 ∨ b = 4 ∨ b = 5 ∨ b = 6 ∨ b = 7 ∨ b = 8 ∨ b = 9 := by grind
  rcases hb with rfl | rfl | rfl | rfl | rfl | rfl | rfl | rfl <;> grind
end YQ
