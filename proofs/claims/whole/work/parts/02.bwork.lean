/-! workOff of both -/
section BW
variable {S M : Nat → Nat → Int32}
theorem rr_toExit (hd : yD S) : r_c_lowestToExit S = -1 ∨ (0 ≤ r_c_lowestToExit S ∧ r_c_lowestToExit S < S 14 1) := by
  have d14a := hd.2.2.2.2.2.2.2.1
  have d14b := hd.2.2.2.2.2.2.2.2.1
  unfold r_c_lowestToExit
  refine l_go 200 (S 14 1) 40 d14a d14b (by decide) (fun n u => 0 ≤ u → (rl0_c_lowestToExit n S u = -1 ∨ (0 ≤ rl0_c_lowestToExit n S u ∧ rl0_c_lowestToExit n S u < S 14 1))) (fun n _ => ?_) (fun n u h0 h1 ih _ => ?_) (by decide)
  · unfold rl0_c_lowestToExit
    rw [if_pos (Int32.le_refl _)]
    exact Or.inl rfl
  · have g := ih (by grind)
    unfold rl0_c_lowestToExit
    grind
theorem rr_toEnter (hd : yD S) : r_c_lowestToEnter S = -1 ∨ (0 ≤ r_c_lowestToEnter S ∧ r_c_lowestToEnter S < S 14 1 ∧ S 17 (r_c_lowestToEnter S).toNatClampNeg = 0 ∧ S 2 (S 15 (r_c_lowestToEnter S).toNatClampNeg).toNatClampNeg ≠ 3) := by
  have d14a := hd.2.2.2.2.2.2.2.1
  have d14b := hd.2.2.2.2.2.2.2.2.1
  unfold r_c_lowestToEnter
  refine l_go 200 (S 14 1) 40 d14a d14b (by decide) (fun n u => 0 ≤ u → (rl0_c_lowestToEnter n S u = -1 ∨ (0 ≤ rl0_c_lowestToEnter n S u ∧ rl0_c_lowestToEnter n S u < S 14 1 ∧ S 17 (rl0_c_lowestToEnter n S u).toNatClampNeg = 0 ∧ S 2 (S 15 (rl0_c_lowestToEnter n S u).toNatClampNeg).toNatClampNeg ≠ 3))) (fun n _ => ?_) (fun n u h0 h1 ih _ => ?_) (by decide)
  · unfold rl0_c_lowestToEnter
    rw [if_pos (Int32.le_refl _)]
    exact Or.inl rfl
  · have g := ih (by grind)
    unfold rl0_c_lowestToEnter
    grind
theorem rr_toComplete (hd : yD S) : r_c_lowestToComplete S = -1 ∨ (0 ≤ r_c_lowestToComplete S ∧ r_c_lowestToComplete S < S 14 1) := by
  have d14a := hd.2.2.2.2.2.2.2.1
  have d14b := hd.2.2.2.2.2.2.2.2.1
  unfold r_c_lowestToComplete
  refine l_go 200 (S 14 1) 40 d14a d14b (by decide) (fun n u => 0 ≤ u → (rl0_c_lowestToComplete n S u = -1 ∨ (0 ≤ rl0_c_lowestToComplete n S u ∧ rl0_c_lowestToComplete n S u < S 14 1))) (fun n _ => ?_) (fun n u h0 h1 ih _ => ?_) (by decide)
  · unfold rl0_c_lowestToComplete
    rw [if_pos (Int32.le_refl _)]
    exact Or.inl rfl
  · have g := ih (by grind)
    unfold rl0_c_lowestToComplete
    grind
/-- the class's loop gave up: what it leaves comes out of the copy -/
def cWc (n : Nat) (u : Int32) (S S1 : Nat → Nat → Int32) : Prop := dk_c_workOff n u S ∧ fk_c_workOff n u S = (3, 0, (f_l_copyFrom14 S1).2)
def cWr (n : Nat) (u : Int32) (S S1 : Nat → Nat → Int32) : Prop := dk_c_workOff n u S ∧ fk_c_workOff n u S = (0, S1 0 3, S1)
def mW (n : Nat) (u : Int32) (M M1 : Nat → Nat → Int32) : Prop := dk_m_workOff n u M ∧ fk_m_workOff n u M = (0, M1)
theorem cp_pair (S : Nat → Nat → Int32) : f_l_copyFrom14 S = (0, (f_l_copyFrom14 S).2) := rfl
theorem cWc_now {n : Nat} {u : Int32} (h : S 0 4 ≠ 0) : cWc (n + 1) u S S := by
  have dc : d_l_copyFrom14 S := trivial
  unfold cWc
  rw [de_c_workOff_0, fe_c_workOff_0]
  rw [if_pos h]
  refine ⟨⟨fun _ => ⟨dc, trivial⟩, fun _ => ⟨fun _ => ⟨dc, trivial⟩, fun q => absurd h q⟩⟩, ?_⟩
  split <;> rfl
theorem mW_cut {n : Nat} (h : M 32 38 ≠ 0) : mW (n + 1) 1 M M := by
  unfold mW
  rw [de_m_workOff_0, fe_m_workOff_0]
  rw [if_neg (by decide), if_pos h]
  exact ⟨⟨fun q => absurd q (by decide), fun _ => ⟨fun _ => trivial, fun q => absurd h q⟩⟩, rfl⟩
theorem mW_0 {n : Nat} : mW (n + 1) 0 M M := by
  unfold mW
  rw [de_m_workOff_0, fe_m_workOff_0]
  rw [if_pos rfl]
  exact ⟨⟨fun _ => trivial, fun q => absurd rfl q⟩, rfl⟩
end BW
theorem z_workOff {T0 : Int32} : ∀ (n N : Nat) (step : Int32) (S M : Nat → Nat → Int32), yR S M T0 → yN S → 0 ≤ step → step ≤ S 0 3 → 62 - (S 0 3).toInt ≤ n → 63 - (S 0 3).toInt ≤ N →
    (∃ S' M', cWr n step S S' ∧ mW N 1 M M' ∧ yR S' M' T0 ∧ yN S' ∧ yF S S' ∧ yFm M M') ∨ (∃ S' M', cWc n step S S' ∧ mW N 1 M M' ∧ yF S S' ∧ yFm M M' ∧ M' 32 38 ≠ 0) := by
  intro n
  induction n with
  | zero =>
    intro N step S M hR hy s0 s1 hn
    have c5 := t_le hR.2.2.2.2.2.2.2.2.2.1
    have c7 := t_le hR.2.2.2.2.2.2.2.2.2.2.2.1
    have := t_60
    exfalso
    omega
  | succ n ih =>
    intro N step S M hR hy s0 s1 hn hN
    have hp := hR.1
    have hl := hR.2.1
    have hd := hR.2.2.1
    have hi := hR.2.2.2.1
    have hk := hR.2.2.2.2.1
    have hc := hR.2.2.2.2.2
    have E := yE_of hp hl hd
    have ex := q_toExit hp hl hd hi hk
    have en := q_toLetIn hp hl hd hy
    have ec := q_toComplete hp hl hd hk
    have rx := rr_toExit hd
    have rn := rr_toEnter hd
    have rc := rr_toComplete hd
    have dx := dd_lowestToExit hd
    have dn := dd_lowestToEnter hd
    have dc := dd_lowestToComplete hd
    have mx := dm_toExit E
    have mn := dm_toLetIn E
    have mc := dm_toComplete E
    have hy1 : ∀ k, yN1 k S := fun k u u0 u1 _ h => hy u u0 u1 h
    obtain ⟨c1, c2, c3, c4, c5, c6, c7, c8, c9, c10, c11⟩ := hc
    have b5 := t_le c5
    have b7 := t_le c7
    have b60 := t_60
    have s60 : ¬ 60 < step := by grind
    obtain ⟨N, rfl⟩ : ∃ N', N = N' + 1 := ⟨N - 1, by omega⟩
    have st1 := i_t1 s0 (by grind : step < 61)
    have nx0 : ∀ {S1 : Nat → Nat → Int32} {M1 : Nat → Nat → Int32}, (yR S1 M1 T0 ∧ (S 0 3).toInt < (S1 0 3).toInt ∧ yN S1) → yF S S1 → yFm M M1 → (∃ S' M', cWr n (step + 1) S1 S' ∧ mW N 1 M1 M' ∧ yR S' M' T0 ∧ yN S' ∧ yF S S' ∧ yFm M M') ∨ (∃ S' M', cWc n (step + 1) S1 S' ∧ mW N 1 M1 M' ∧ yF S S' ∧ yFm M M' ∧ M' 32 38 ≠ 0) := by
      intro S1 M1 h F Fm
      have le : step + 1 ≤ S1 0 3 := by
        have a := t_le s1
        apply Int32.le_iff_toInt_le.2
        omega
      rcases ih N (step + 1) S1 M1 h.1 h.2.2 (by grind) le (by omega) (by omega) with ⟨S', M', w1, w2, w3, w4, w5, w6⟩ | ⟨S', M', w1, w2, w3, w4, w5⟩
      · exact Or.inl ⟨S', M', w1, w2, w3, w4, F.tr w5, Fm.tr w6⟩
      · exact Or.inr ⟨S', M', w1, w2, F.tr w3, Fm.tr w4, w5⟩
    have nx1 : ∀ {S1 : Nat → Nat → Int32} {M1 : Nat → Nat → Int32}, (S1 0 4 ≠ 0 ∧ yD S1 ∧ M1 32 38 ≠ 0) → yF S S1 → yFm M M1 → (∃ S' M', cWr n (step + 1) S1 S' ∧ mW N 1 M1 M' ∧ yR S' M' T0 ∧ yN S' ∧ yF S S' ∧ yFm M M') ∨ (∃ S' M', cWc n (step + 1) S1 S' ∧ mW N 1 M1 M' ∧ yF S S' ∧ yFm M M' ∧ M' 32 38 ≠ 0) := by
      intro S1 M1 h F Fm
      obtain ⟨n, rfl⟩ : ∃ n', n = n' + 1 := ⟨n - 1, by omega⟩
      obtain ⟨N, rfl⟩ : ∃ N', N = N' + 1 := ⟨N - 1, by omega⟩
      exact Or.inr ⟨S1, M1, cWc_now h.1, mW_cut h.2.2, F, Fm, h.2.2⟩
    have nx : ∀ {S1 : Nat → Nat → Int32} {M1 : Nat → Nat → Int32}, ((yR S1 M1 T0 ∧ (S 0 3).toInt < (S1 0 3).toInt ∧ yN S1) ∨ (S1 0 4 ≠ 0 ∧ yD S1 ∧ M1 32 38 ≠ 0)) → yF S S1 → yFm M M1 → (∃ S' M', cWr n (step + 1) S1 S' ∧ mW N 1 M1 M' ∧ yR S' M' T0 ∧ yN S' ∧ yF S S' ∧ yFm M M') ∨ (∃ S' M', cWc n (step + 1) S1 S' ∧ mW N 1 M1 M' ∧ yF S S' ∧ yFm M M' ∧ M' 32 38 ≠ 0) := by
      intro S1 M1 h F Fm
      rcases h with h | h
      · exact nx0 h F Fm
      · exact nx1 h F Fm
    unfold cWr cWc mW
    rw [de_c_workOff_0, fe_c_workOff_0, de_m_workOff_0, fe_m_workOff_0]
    rw [ex, en, ec, if_neg s60, if_neg (show ¬ (S 0 4 ≠ 0) from fun q => q c10)]
    have u1 : ¬ (1 : Int32) = 0 := by decide
    rw [if_neg u1, if_neg (show ¬ (M 32 38 ≠ 0) from fun q => q c11)]
    by_cases q1 : r_c_lowestToExit S = -1
    · have q1' : r_c_lowestToExit S < 0 := by rw [q1]; decide
      rw [if_pos q1, if_pos q1']
      by_cases q2 : r_c_lowestToEnter S = -1
      · have q2' : r_c_lowestToEnter S < 0 := by rw [q2]; decide
        rw [if_pos q2, if_pos q2']
        by_cases q3 : r_c_lowestToComplete S = -1
        · have q3' : r_c_lowestToComplete S < 0 := by rw [q3]; decide
          obtain ⟨N, rfl⟩ : ∃ N', N = N' + 1 := ⟨N - 1, by omega⟩
          obtain ⟨w1, w2⟩ := mW_0 (n := N) (M := M)
          rw [if_neg (show ¬ (r_c_lowestToComplete S ≠ -1) from fun q => q q3), if_pos q3']
          refine Or.inl ⟨S, M, ⟨?_, rfl⟩, ⟨?_, w2⟩, hR, hy, yF.rf S, yFm.rf M⟩
          · exact ⟨fun q => absurd q s60, fun _ => ⟨fun q => absurd c10 q, fun _ => ⟨dx, fun _ => ⟨dn, fun _ => ⟨dc, fun q => absurd q3 q, fun _ => trivial⟩, fun q => absurd q2 q⟩, fun q => absurd q1 q⟩⟩⟩
          · exact ⟨fun q => absurd q u1, fun _ => ⟨fun q => absurd c11 q, fun _ => ⟨mx, fun _ => ⟨mn, fun _ => ⟨mc, fun _ => w1, fun q => absurd q3' q⟩, fun q => absurd q2' q⟩, fun q => absurd q1' q⟩⟩⟩
        · have q3' : ¬ r_c_lowestToComplete S < 0 := by
            rcases rc with h | h
            · exact absurd h q3
            · grind
          have rc' : 0 ≤ r_c_lowestToComplete S ∧ r_c_lowestToComplete S < S 14 1 := by
            rcases rc with h | h
            · exact absurd h q3
            · exact h
          obtain ⟨S1, M1, a1, a2, a3, a4, a5⟩ := z_make (k := r_c_lowestToComplete S) (mv := 4) hR rc'.1 rc'.2 (by decide) (by decide) (fun _ => Or.inr (Or.inl rfl)) (fun h => absurd h (by decide)) (fun h => absurd h (by decide)) (fun h => absurd h (by decide)) (hy1 _) (fun _ => hy)
          have c1' : d_c_make (r_c_lowestToComplete S) 4 0 S := a1.1
          have c2' : f_c_make (r_c_lowestToComplete S) 4 0 S = (0, S1) := a1.2
          obtain ⟨b1, b2⟩ := a3
          rw [if_pos q3, if_neg q3', c2', b2]
          rcases nx a5 a2 a4 with ⟨S', M', ⟨w1, w2⟩, ⟨w3, w4⟩, w5⟩ | ⟨S', M', ⟨w1, w2⟩, ⟨w3, w4⟩, w5⟩
          · refine Or.inl ⟨S', M', ⟨?_, w2⟩, ⟨?_, w4⟩, w5⟩
            · exact ⟨fun q => absurd q s60, fun _ => ⟨fun q => absurd c10 q, fun _ => ⟨dx, fun _ => ⟨dn, fun _ => ⟨dc, fun _ => ⟨c1', w1⟩, fun q => absurd q3 q⟩, fun q => absurd q2 q⟩, fun q => absurd q1 q⟩⟩⟩
            · exact ⟨fun q => absurd q u1, fun _ => ⟨fun q => absurd c11 q, fun _ => ⟨mx, fun _ => ⟨mn, fun _ => ⟨mc, fun q => absurd q q3', fun _ => ⟨b1, w3⟩⟩, fun q => absurd q2' q⟩, fun q => absurd q1' q⟩⟩⟩
          · refine Or.inr ⟨S', M', ⟨?_, w2⟩, ⟨?_, w4⟩, w5⟩
            · exact ⟨fun q => absurd q s60, fun _ => ⟨fun q => absurd c10 q, fun _ => ⟨dx, fun _ => ⟨dn, fun _ => ⟨dc, fun _ => ⟨c1', w1⟩, fun q => absurd q3 q⟩, fun q => absurd q2 q⟩, fun q => absurd q1 q⟩⟩⟩
            · exact ⟨fun q => absurd q u1, fun _ => ⟨fun q => absurd c11 q, fun _ => ⟨mx, fun _ => ⟨mn, fun _ => ⟨mc, fun q => absurd q q3', fun _ => ⟨b1, w3⟩⟩, fun q => absurd q2' q⟩, fun q => absurd q1' q⟩⟩⟩
      · have rn' : 0 ≤ r_c_lowestToEnter S ∧ r_c_lowestToEnter S < S 14 1 ∧ S 17 (r_c_lowestToEnter S).toNatClampNeg = 0 ∧ S 2 (S 15 (r_c_lowestToEnter S).toNatClampNeg).toNatClampNeg ≠ 3 := by
          rcases rn with h | h
          · exact absurd h q2
          · exact h
        have q2' : ¬ r_c_lowestToEnter S < 0 := by have := rn'.1; grind
        obtain ⟨S1, M1, c1', c2', a2, b1, b2, a4, a5⟩ := z_letIn (k := r_c_lowestToEnter S) hR hy rn'.1 rn'.2.1 rn'.2.2.1 rn'.2.2.2
        rw [if_neg q2, if_neg q2', c2', b2]
        rcases nx a5 a2 a4 with ⟨S', M', ⟨w1, w2⟩, ⟨w3, w4⟩, w5⟩ | ⟨S', M', ⟨w1, w2⟩, ⟨w3, w4⟩, w5⟩
        · refine Or.inl ⟨S', M', ⟨?_, w2⟩, ⟨?_, w4⟩, w5⟩
          · exact ⟨fun q => absurd q s60, fun _ => ⟨fun q => absurd c10 q, fun _ => ⟨dx, fun _ => ⟨dn, fun q => absurd q q2, fun _ => ⟨c1', w1⟩⟩, fun q => absurd q1 q⟩⟩⟩
          · exact ⟨fun q => absurd q u1, fun _ => ⟨fun q => absurd c11 q, fun _ => ⟨mx, fun _ => ⟨mn, fun q => absurd q q2', fun _ => ⟨b1, w3⟩⟩, fun q => absurd q1' q⟩⟩⟩
        · refine Or.inr ⟨S', M', ⟨?_, w2⟩, ⟨?_, w4⟩, w5⟩
          · exact ⟨fun q => absurd q s60, fun _ => ⟨fun q => absurd c10 q, fun _ => ⟨dx, fun _ => ⟨dn, fun q => absurd q q2, fun _ => ⟨c1', w1⟩⟩, fun q => absurd q1 q⟩⟩⟩
          · exact ⟨fun q => absurd q u1, fun _ => ⟨fun q => absurd c11 q, fun _ => ⟨mx, fun _ => ⟨mn, fun q => absurd q q2', fun _ => ⟨b1, w3⟩⟩, fun q => absurd q1' q⟩⟩⟩
    · have rx' : 0 ≤ r_c_lowestToExit S ∧ r_c_lowestToExit S < S 14 1 := by
        rcases rx with h | h
        · exact absurd h q1
        · exact h
      have q1' : ¬ r_c_lowestToExit S < 0 := by have := rx'.1; grind
      obtain ⟨S1, M1, a1, a2, a3, a4, a5⟩ := z_make (k := r_c_lowestToExit S) (mv := 9) hR rx'.1 rx'.2 (by decide) (by decide) (fun _ => Or.inr (Or.inr rfl)) (fun h => absurd h (by decide)) (fun h => absurd h (by decide)) (fun h => absurd h (by decide)) (hy1 _) (fun _ => hy)
      have c1' : d_c_make (r_c_lowestToExit S) 9 0 S := a1.1
      have c2' : f_c_make (r_c_lowestToExit S) 9 0 S = (0, S1) := a1.2
      obtain ⟨b1, b2⟩ := a3
      rw [if_neg q1, if_neg q1', c2', b2]
      rcases nx a5 a2 a4 with ⟨S', M', ⟨w1, w2⟩, ⟨w3, w4⟩, w5⟩ | ⟨S', M', ⟨w1, w2⟩, ⟨w3, w4⟩, w5⟩
      · refine Or.inl ⟨S', M', ⟨?_, w2⟩, ⟨?_, w4⟩, w5⟩
        · exact ⟨fun q => absurd q s60, fun _ => ⟨fun q => absurd c10 q, fun _ => ⟨dx, fun q => absurd q q1, fun _ => ⟨c1', w1⟩⟩⟩⟩
        · exact ⟨fun q => absurd q u1, fun _ => ⟨fun q => absurd c11 q, fun _ => ⟨mx, fun q => absurd q q1', fun _ => ⟨b1, w3⟩⟩⟩⟩
      · refine Or.inr ⟨S', M', ⟨?_, w2⟩, ⟨?_, w4⟩, w5⟩
        · exact ⟨fun q => absurd q s60, fun _ => ⟨fun q => absurd c10 q, fun _ => ⟨dx, fun q => absurd q q1, fun _ => ⟨c1', w1⟩⟩⟩⟩
        · exact ⟨fun q => absurd q u1, fun _ => ⟨fun q => absurd c11 q, fun _ => ⟨mx, fun q => absurd q q1', fun _ => ⟨b1, w3⟩⟩⟩⟩
