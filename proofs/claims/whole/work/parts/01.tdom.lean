/-! what holds of the cells; that all reads of the methods that change nothing lie within -/
def yD (S : Nat → Nat → Int32) : Prop := 1 ≤ S 1 0 ∧ S 1 0 ≤ 12 ∧ 0 ≤ S 1 5 ∧ S 1 5 ≤ 16 ∧ (∀ s, 0 ≤ S 6 s ∧ S 6 s < 12) ∧ (∀ s, 0 ≤ S 8 s ∧ S 8 s ≤ 2) ∧ (∀ s, 0 ≤ S 12 s ∧ S 12 s < 4) ∧ 0 ≤ S 14 1 ∧ S 14 1 ≤ 40 ∧ (∀ k, 0 ≤ S 15 k ∧ S 15 k < 12) ∧ (∀ k, -1 ≤ S 16 k ∧ S 16 k < 40)
def yE (S : Nat → Nat → Int32) : Prop := 1 ≤ S 32 1 ∧ S 32 1 ≤ 12 ∧ 0 ≤ S 32 5 ∧ S 32 5 ≤ 16 ∧ (∀ s, 0 ≤ S 36 s ∧ S 36 s < 12) ∧ (∀ s, 0 ≤ S 38 s ∧ S 38 s ≤ 2) ∧ (∀ s, 0 ≤ S 42 s ∧ S 42 s < 4) ∧ 0 ≤ S 32 17 ∧ S 32 17 ≤ 40 ∧ (∀ k, 0 ≤ S 45 k ∧ S 45 k < 12) ∧ (∀ k, -1 ≤ S 46 k ∧ S 46 k < 40)
section YD
variable {S : Nat → Nat → Int32} {a b : Int32}
theorem dd_isFinal (h : vp_in a 40) : d_l_isFinal S a := by
  unfold d_l_isFinal
  repeat' (first | with_reducible exact trivial | with_reducible assumption | with_reducible apply And.intro | intro _)
theorem dd_isWaiting (h : vp_in a 40) : d_l_isWaiting S a := by
  unfold d_l_isWaiting
  repeat' (first | with_reducible exact trivial | with_reducible assumption | with_reducible apply And.intro | intro _)
theorem dd_hasFlag (h : vp_in a 12) : d_p_hasFlag S a b := by
  unfold d_p_hasFlag
  repeat' (first | with_reducible exact trivial | with_reducible assumption | with_reducible apply And.intro | intro _)
theorem dd_hasEntry (D : yD S) : d_p_hasEntry S a := by
  obtain ⟨d1, d2, d3, d4, d6, d8, d12, d14a, d14b, d15, d16⟩ := D
  unfold d_p_hasEntry
  refine l_go 200 (S 1 5) 16 d3 d4 (by decide) (fun n u => dl0_p_hasEntry n S a u) (fun n => ?_) (fun n u h0 h1 ih => ?_)
  · show _ ∧ _
    refine ⟨fun _ => trivial, fun h => absurd (Int32.le_refl _) h⟩
  · have hv : vp_in u 16 := v16 h0 (by grind)
    show _ ∧ _
    repeat' (first | with_reducible exact trivial | with_reducible assumption | with_reducible apply And.intro | intro _)
theorem dd_ifPartHolds (D : yD S) (h : vp_in a 16) : d_p_ifPartHolds S a := by
  obtain ⟨d1, d2, d3, d4, d6, d8, d12, d14a, d14b, d15, d16⟩ := D
  have hv : vp_in (S 12 (a).toNatClampNeg) 4 := v4 (d12 _).1 (d12 _).2
  unfold d_p_ifPartHolds
  repeat' (first | with_reducible exact trivial | with_reducible assumption | with_reducible apply And.intro | intro _)
theorem rr_ifPartHolds : r_p_ifPartHolds S a = 0 ∨ r_p_ifPartHolds S a = 1 := by
  unfold r_p_ifPartHolds
  grind
theorem dd_isSatisfied (D : yD S) (h : vp_in a 16) : d_p_isSatisfied S a b := by
  have g1 := dd_ifPartHolds D h
  have g2 := @rr_ifPartHolds S a
  obtain ⟨d1, d2, d3, d4, d6, d8, d12, d14a, d14b, d15, d16⟩ := D
  unfold d_p_isSatisfied
  refine l_go 200 (S 8 (a).toNatClampNeg) 2 (d8 _).1 (d8 _).2 (by decide) (fun n u => dl0_p_isSatisfied n S a b u) (fun n => ?_) (fun n u h0 h1 ih => ?_)
  · show _ ∧ _
    refine ⟨h, fun _ => ⟨g1, g2⟩, fun h => absurd (Int32.le_refl _) h⟩
  · show _ ∧ _
    have g3 : d_p_partBit S a u := trivial
    repeat' (first | with_reducible exact trivial | with_reducible assumption | with_reducible apply And.intro | intro _)
theorem dd_parentLets (D : yD S) (h : vp_in a 40) : d_c_parentLets S a := by
  obtain ⟨d1, d2, d3, d4, d6, d8, d12, d14a, d14b, d15, d16⟩ := D
  unfold d_c_parentLets
  refine ⟨h, fun _ => trivial, fun q => ?_⟩
  have hv : vp_in (S 16 (a).toNatClampNeg) 40 := v40 (by have := d16 (a).toNatClampNeg; grind) (d16 _).2
  repeat' (first | with_reducible exact trivial | with_reducible assumption | with_reducible apply And.intro | intro _)
theorem dd_isSettled (D : yD S) : d_c_isSettled S a := by
  obtain ⟨d1, d2, d3, d4, d6, d8, d12, d14a, d14b, d15, d16⟩ := D
  unfold d_c_isSettled
  refine l_go 200 (S 14 1) 40 d14a d14b (by decide) (fun n u => dl0_c_isSettled n S a u) (fun n => ?_) (fun n u h0 h1 ih => ?_)
  · show _ ∧ _
    refine ⟨fun _ => trivial, fun h => absurd (Int32.le_refl _) h⟩
  · have hv : vp_in u 40 := v40 h0 (by grind)
    have g1 := dd_isFinal (S := S) hv
    have g2 := dd_isWaiting (S := S) hv
    have g3 := dd_hasFlag (S := S) (b := 2) (v12 (d15 (u).toNatClampNeg).1 (d15 (u).toNatClampNeg).2)
    show _ ∧ _
    repeat' (first | with_reducible exact trivial | with_reducible assumption | with_reducible apply And.intro | intro _)
theorem dd_hasWaitingChild (D : yD S) : d_c_hasWaitingChild S a := by
  obtain ⟨d1, d2, d3, d4, d6, d8, d12, d14a, d14b, d15, d16⟩ := D
  unfold d_c_hasWaitingChild
  refine l_go 200 (S 14 1) 40 d14a d14b (by decide) (fun n u => dl0_c_hasWaitingChild n S a u) (fun n => ?_) (fun n u h0 h1 ih => ?_)
  · show _ ∧ _
    refine ⟨fun _ => trivial, fun h => absurd (Int32.le_refl _) h⟩
  · have hv : vp_in u 40 := v40 h0 (by grind)
    have g2 := dd_isWaiting (S := S) hv
    show _ ∧ _
    repeat' (first | with_reducible exact trivial | with_reducible assumption | with_reducible apply And.intro | intro _)
theorem dd_isDone (D : yD S) (h : vp_in a 40) : d_c_isDone S a := by
  have g1 := dd_isSettled (a := a) D
  have g2 := dd_hasWaitingChild (a := a) D
  obtain ⟨d1, d2, d3, d4, d6, d8, d12, d14a, d14b, d15, d16⟩ := D
  have g3 := dd_hasFlag (S := S) (b := 8) (v12 (d15 (a).toNatClampNeg).1 (d15 (a).toNatClampNeg).2)
  unfold d_c_isDone
  repeat' (first | with_reducible exact trivial | with_reducible assumption | with_reducible apply And.intro | intro _)
theorem dd_hasSatisfied (D : yD S) (h : vp_in a 40) : d_c_hasSatisfied S a b := by
  have D' := D
  obtain ⟨d1, d2, d3, d4, d6, d8, d12, d14a, d14b, d15, d16⟩ := D
  unfold d_c_hasSatisfied
  refine l_go 200 (S 1 5) 16 d3 d4 (by decide) (fun n u => dl0_c_hasSatisfied n S a b u) (fun n => ?_) (fun n u h0 h1 ih => ?_)
  · show _ ∧ _
    refine ⟨fun _ => trivial, fun h => absurd (Int32.le_refl _) h⟩
  · have hv : vp_in u 16 := v16 h0 (by grind)
    have g1 := dd_isSatisfied (b := S 19 (a).toNatClampNeg) D' hv
    show _ ∧ _
    repeat' (first | with_reducible exact trivial | with_reducible assumption | with_reducible apply And.intro | intro _)
theorem dd_stateAndKindFit (D : yD S) (h : vp_in a 40) : d_c_stateAndKindFit S a b := by
  have g1 := dd_isSettled (a := a) D
  have g2 := dd_isFinal (S := S) h
  obtain ⟨d1, d2, d3, d4, d6, d8, d12, d14a, d14b, d15, d16⟩ := D
  have g3 := v12 (d15 (a).toNatClampNeg).1 (d15 (a).toNatClampNeg).2
  unfold d_c_stateAndKindFit
  repeat' (first | with_reducible exact trivial | with_reducible assumption | with_reducible apply And.intro | intro _)
theorem dd_mayBeMoved (D : yD S) (h : vp_in a 40) : d_c_mayBeMoved S a b := by
  have g1 := dd_parentLets D h
  have g2 := dd_stateAndKindFit (b := b) D h
  unfold d_c_mayBeMoved
  repeat' (first | with_reducible exact trivial | with_reducible assumption | with_reducible apply And.intro | intro _)
theorem dd_lowestToExit (D : yD S) : d_c_lowestToExit S := by
  have D' := D
  obtain ⟨d1, d2, d3, d4, d6, d8, d12, d14a, d14b, d15, d16⟩ := D
  unfold d_c_lowestToExit
  refine l_go 200 (S 14 1) 40 d14a d14b (by decide) (fun n u => dl0_c_lowestToExit n S u) (fun n => ?_) (fun n u h0 h1 ih => ?_)
  · show _ ∧ _
    refine ⟨fun _ => trivial, fun h => absurd (Int32.le_refl _) h⟩
  · have hv : vp_in u 40 := v40 h0 (by grind)
    have g1 := dd_isFinal (S := S) hv
    have g2 := dd_parentLets D' hv
    have g3 := dd_hasSatisfied (b := 1) D' hv
    show _ ∧ _
    repeat' (first | with_reducible exact trivial | with_reducible assumption | with_reducible apply And.intro | intro _)
theorem dd_lowestToEnter (D : yD S) : d_c_lowestToEnter S := by
  have D' := D
  obtain ⟨d1, d2, d3, d4, d6, d8, d12, d14a, d14b, d15, d16⟩ := D
  unfold d_c_lowestToEnter
  refine l_go 200 (S 14 1) 40 d14a d14b (by decide) (fun n u => dl0_c_lowestToEnter n S u) (fun n => ?_) (fun n u h0 h1 ih => ?_)
  · show _ ∧ _
    refine ⟨fun _ => trivial, fun h => absurd (Int32.le_refl _) h⟩
  · have hv : vp_in u 40 := v40 h0 (by grind)
    have hw := v12 (d15 (u).toNatClampNeg).1 (d15 (u).toNatClampNeg).2
    have g1 := dd_hasEntry (a := S 15 (u).toNatClampNeg) D'
    have g2 := dd_parentLets D' hv
    have g3 := dd_hasSatisfied (b := 0) D' hv
    show _ ∧ _
    repeat' (first | with_reducible exact trivial | with_reducible assumption | with_reducible apply And.intro | intro _)
theorem dd_lowestToComplete (D : yD S) : d_c_lowestToComplete S := by
  have D' := D
  obtain ⟨d1, d2, d3, d4, d6, d8, d12, d14a, d14b, d15, d16⟩ := D
  unfold d_c_lowestToComplete
  refine l_go 200 (S 14 1) 40 d14a d14b (by decide) (fun n u => dl0_c_lowestToComplete n S u) (fun n => ?_) (fun n u h0 h1 ih => ?_)
  · show _ ∧ _
    refine ⟨fun _ => trivial, fun h => absurd (Int32.le_refl _) h⟩
  · have hv : vp_in u 40 := v40 h0 (by grind)
    have hw := v12 (d15 (u).toNatClampNeg).1 (d15 (u).toNatClampNeg).2
    have g2 := dd_parentLets D' hv
    have g3 := dd_isDone D' hv
    show _ ∧ _
    repeat' (first | with_reducible exact trivial | with_reducible assumption | with_reducible apply And.intro | intro _)
end YD
section YE
variable {S : Nat → Nat → Int32} {a b : Int32}
theorem dm_isFinal (h : vp_in a 40) : d_m_isFinal S a := by
  unfold d_m_isFinal
  repeat' (first | with_reducible exact trivial | with_reducible assumption | with_reducible apply And.intro | intro _)
theorem dm_kindOf (E : yE S) (h : vp_in a 40) : d_m_kindOf S a := by
  obtain ⟨e1, e2, e3, e4, e6, e8, e12, e14a, e14b, e15, e16⟩ := E
  have g := v12 (e15 (a).toNatClampNeg).1 (e15 (a).toNatClampNeg).2
  unfold d_m_kindOf
  repeat' (first | with_reducible exact trivial | with_reducible assumption | with_reducible apply And.intro | intro _)
theorem dm_hasFlag (E : yE S) (h : vp_in a 40) : d_m_hasFlag S a b := by
  obtain ⟨e1, e2, e3, e4, e6, e8, e12, e14a, e14b, e15, e16⟩ := E
  have g := v12 (e15 (a).toNatClampNeg).1 (e15 (a).toNatClampNeg).2
  unfold d_m_hasFlag
  repeat' (first | with_reducible exact trivial | with_reducible assumption | with_reducible apply And.intro | intro _)
theorem dm_hasEntry (E : yE S) (h : vp_in a 40) : d_m_hasEntry S a := by
  obtain ⟨e1, e2, e3, e4, e6, e8, e12, e14a, e14b, e15, e16⟩ := E
  unfold d_m_hasEntry
  refine l_go 200 (S 32 5) 16 e3 e4 (by decide) (fun n u => ∀ g : Int32, g = 0 ∨ g = 1 → dl0_m_hasEntry n S a g u) (fun n g hg => ?_) (fun n u h0 h1 ih g hg => ?_) 0 (Or.inl rfl)
  · show _ ∧ _
    refine ⟨fun _ => hg, fun h => absurd (Int32.le_refl _) h⟩
  · have hv : vp_in u 16 := v16 h0 (by grind)
    have ih0 := ih 0 (Or.inl rfl)
    have ih1 := ih 1 (Or.inr rfl)
    show _ ∧ _
    repeat' (first | with_reducible exact trivial | with_reducible assumption | with_reducible apply And.intro | intro _)
theorem dm_parentActive (E : yE S) (h : vp_in a 40) : d_m_parentActive S a := by
  obtain ⟨e1, e2, e3, e4, e6, e8, e12, e14a, e14b, e15, e16⟩ := E
  unfold d_m_parentActive
  refine ⟨h, fun _ => trivial, fun q => ?_⟩
  have hv : vp_in (S 46 (a).toNatClampNeg) 40 := v40 (by grind) (e16 _).2
  repeat' (first | with_reducible exact trivial | with_reducible assumption | with_reducible apply And.intro | intro _)
theorem dm_target : d_m_target S a := by
  unfold d_m_target
  repeat' (first | with_reducible exact trivial | with_reducible assumption | with_reducible apply And.intro | intro _)
theorem dm_follows (h : vp_in a 40) : d_m_follows S a b := by
  have g := dm_isFinal (S := S) h
  unfold d_m_follows
  repeat' (first | with_reducible exact trivial | with_reducible assumption | with_reducible apply And.intro | intro _)
theorem dm_satisfied (E : yE S) (h : vp_in a 16) (hb : vp_in b 40) : d_m_satisfied S a b := by
  obtain ⟨e1, e2, e3, e4, e6, e8, e12, e14a, e14b, e15, e16⟩ := E
  have hv : vp_in (S 42 (a).toNatClampNeg) 4 := v4 (e12 _).1 (e12 _).2
  unfold d_m_satisfied
  refine l_go 200 (S 38 (a).toNatClampNeg) 2 (e8 _).1 (e8 _).2 (by decide) (fun n u => ∀ g : Int32, g = 0 ∨ g = 1 → dl0_m_satisfied n S a b g u) (fun n g hg => ?_) (fun n u h0 h1 ih g hg => ?_) 1 (Or.inr rfl)
  · show _ ∧ _
    refine ⟨h, fun _ => ?_, fun h => absurd (Int32.le_refl _) h⟩
    repeat' (first | with_reducible exact trivial | with_reducible assumption | with_reducible apply And.intro | intro _)
  · have ih0 := ih 0 (Or.inl rfl)
    have ih1 := ih 1 (Or.inr rfl)
    have hn : ¬ S 38 (a).toNatClampNeg ≤ u := by grind
    show _ ∧ _
    refine ⟨h, fun q => absurd q hn, fun _ => ?_⟩
    repeat' (first | with_reducible exact trivial | with_reducible assumption | with_reducible apply And.intro | intro _)
theorem dm_someSatisfied (E : yE S) (h : vp_in a 40) : d_m_someSatisfied S a b := by
  have E' := E
  obtain ⟨e1, e2, e3, e4, e6, e8, e12, e14a, e14b, e15, e16⟩ := E
  unfold d_m_someSatisfied
  refine l_go 200 (S 32 5) 16 e3 e4 (by decide) (fun n u => ∀ g : Int32, g = 0 ∨ g = 1 → dl0_m_someSatisfied n S a b g u) (fun n g hg => ?_) (fun n u h0 h1 ih g hg => ?_) 0 (Or.inl rfl)
  · show _ ∧ _
    refine ⟨fun _ => hg, fun h => absurd (Int32.le_refl _) h⟩
  · have hv : vp_in u 16 := v16 h0 (by grind)
    have g1 := dm_satisfied E' hv h
    have ih0 := ih 0 (Or.inl rfl)
    have ih1 := ih 1 (Or.inr rfl)
    show _ ∧ _
    repeat' (first | with_reducible exact trivial | with_reducible assumption | with_reducible apply And.intro | intro _)
theorem dm_settled (E : yE S) : d_m_settled S a := by
  have E' := E
  obtain ⟨e1, e2, e3, e4, e6, e8, e12, e14a, e14b, e15, e16⟩ := E
  unfold d_m_settled
  refine l_go 200 (S 32 17) 40 e14a e14b (by decide) (fun n u => ∀ g : Int32, g = 0 ∨ g = 1 → dl0_m_settled n S a g u) (fun n g hg => ?_) (fun n u h0 h1 ih g hg => ?_) 1 (Or.inr rfl)
  · show _ ∧ _
    refine ⟨fun _ => hg, fun h => absurd (Int32.le_refl _) h⟩
  · have hv : vp_in u 40 := v40 h0 (by grind)
    have g1 := dm_hasFlag (b := 2) E' hv
    have ih0 := ih 0 (Or.inl rfl)
    have ih1 := ih g hg
    show _ ∧ _
    repeat' (first | with_reducible exact trivial | with_reducible assumption | with_reducible apply And.intro | intro _)
theorem rr_settled (n : Nat) : ∀ (g u : Int32), g = 0 ∨ g = 1 → rl0_m_settled n S a g u = 0 ∨ rl0_m_settled n S a g u = 1 := by
  induction n with
  | zero => intro g u _; exact Or.inl rfl
  | succ n ih =>
    intro g u hg
    have ih0 := ih 0 (u + 1) (Or.inl rfl)
    have ih1 := ih g (u + 1) hg
    unfold rl0_m_settled
    grind
theorem dm_done (E : yE S) (h : vp_in a 40) : d_m_done S a := by
  have g0 := dm_settled (a := a) E
  have g1 := dm_hasFlag (b := 8) E h
  obtain ⟨e1, e2, e3, e4, e6, e8, e12, e14a, e14b, e15, e16⟩ := E
  unfold d_m_done
  refine ⟨g0, ?_⟩
  refine l_go 200 (S 32 17) 40 e14a e14b (by decide) (fun n u => ∀ g : Int32, g = 0 ∨ g = 1 → dl0_m_done n S a g u) (fun n g hg => ?_) (fun n u h0 h1 ih g hg => ?_) (r_m_settled S a) (rr_settled 200 1 0 (Or.inr rfl))
  · show _ ∧ _
    refine ⟨fun _ => hg, fun h => absurd (Int32.le_refl _) h⟩
  · have hv : vp_in u 40 := v40 h0 (by grind)
    have ih0 := ih 0 (Or.inl rfl)
    have ih1 := ih g hg
    show _ ∧ _
    repeat' (first | with_reducible exact trivial | with_reducible assumption | with_reducible apply And.intro | intro _)
theorem dm_toExit (E : yE S) : d_m_toExit S := by
  have E' := E
  obtain ⟨e1, e2, e3, e4, e6, e8, e12, e14a, e14b, e15, e16⟩ := E
  unfold d_m_toExit
  refine l_go 200 (S 32 17) 40 e14a e14b (by decide) (fun n u => dl0_m_toExit n S u) (fun n => ?_) (fun n u h0 h1 ih => ?_)
  · show _ ∧ _
    refine ⟨fun _ => trivial, fun h => absurd (Int32.le_refl _) h⟩
  · have hv : vp_in u 40 := v40 h0 (by grind)
    have g1 := dm_isFinal (S := S) hv
    have g2 := dm_parentActive E' hv
    have g3 := dm_someSatisfied (b := 1) E' hv
    show _ ∧ _
    repeat' (first | with_reducible exact trivial | with_reducible assumption | with_reducible apply And.intro | intro _)
theorem dm_toLetIn (E : yE S) : d_m_toLetIn S := by
  have E' := E
  obtain ⟨e1, e2, e3, e4, e6, e8, e12, e14a, e14b, e15, e16⟩ := E
  unfold d_m_toLetIn
  refine l_go 200 (S 32 17) 40 e14a e14b (by decide) (fun n u => dl0_m_toLetIn n S u) (fun n => ?_) (fun n u h0 h1 ih => ?_)
  · show _ ∧ _
    refine ⟨fun _ => trivial, fun h => absurd (Int32.le_refl _) h⟩
  · have hv : vp_in u 40 := v40 h0 (by grind)
    have g0 := dm_kindOf E' hv
    have g1 := dm_hasEntry E' hv
    have g2 := dm_parentActive E' hv
    have g3 := dm_someSatisfied (b := 0) E' hv
    show _ ∧ _
    repeat' (first | with_reducible exact trivial | with_reducible assumption | with_reducible apply And.intro | intro _)
theorem dm_toComplete (E : yE S) : d_m_toComplete S := by
  have E' := E
  obtain ⟨e1, e2, e3, e4, e6, e8, e12, e14a, e14b, e15, e16⟩ := E
  unfold d_m_toComplete
  refine l_go 200 (S 32 17) 40 e14a e14b (by decide) (fun n u => dl0_m_toComplete n S u) (fun n => ?_) (fun n u h0 h1 ih => ?_)
  · show _ ∧ _
    refine ⟨fun _ => trivial, fun h => absurd (Int32.le_refl _) h⟩
  · have hv : vp_in u 40 := v40 h0 (by grind)
    have g0 := dm_kindOf E' hv
    have g1 := dm_done E' hv
    have g2 := dm_parentActive E' hv
    show _ ∧ _
    repeat' (first | with_reducible exact trivial | with_reducible assumption | with_reducible apply And.intro | intro _)
theorem dm_allowed (E : yE S) (h : vp_in a 40) : d_m_allowed S a b := by
  have g0 := dm_kindOf E h
  have g1 := dm_settled (a := a) E
  have g2 := dm_parentActive E h
  have g3 := dm_isFinal (S := S) h
  unfold d_m_allowed
  repeat' (first | with_reducible exact trivial | with_reducible assumption | with_reducible apply And.intro | intro _)
end YE
