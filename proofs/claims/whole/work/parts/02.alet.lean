/-! letIn of both -/
def cTl (k it : Int32) (S : Nat → Nat → Int32) : Int32 × (Nat → Nat → Int32) := if (S 2 (it).toNatClampNeg) ≠ 2 then (if (r_p_hasFlag S it 4) = 0 then (match f_c_make k 2 0 S with | (_, S1) => (0, S1)) else (match f_c_make k 1 0 S with | (_, S2) => (0, S2))) else (match f_c_make k 3 0 S with | (_, S3) => (0, S3))
def cTd (k it : Int32) (S : Nat → Nat → Int32) : Prop := vp_in it 12 ∧ (((S 2 (it).toNatClampNeg) ≠ 2 → (d_p_hasFlag S it 4 ∧ (((r_p_hasFlag S it 4) = 0 → (d_c_make k 2 0 S ∧ (match f_c_make k 2 0 S with | (_, S1) => True))) ∧ (¬ ((r_p_hasFlag S it 4) = 0) → (d_c_make k 1 0 S ∧ (match f_c_make k 1 0 S with | (_, S2) => True)))))) ∧ (¬ ((S 2 (it).toNatClampNeg) ≠ 2) → (d_c_make k 3 0 S ∧ (match f_c_make k 3 0 S with | (_, S3) => True))))
def mTl (k : Int32) (S : Nat → Nat → Int32) : Int32 × (Nat → Nat → Int32) := if (r_m_kindOf S k) ≠ 2 then (if (r_m_hasFlag S k 4) = 0 then (match f_m_make k 2 S with | (_, S1) => (0, S1)) else (match f_m_make k 1 S with | (_, S2) => (0, S2))) else (match f_m_make k 3 S with | (_, S3) => (0, S3))
def mTd (k : Int32) (S : Nat → Nat → Int32) : Prop := d_m_kindOf S k ∧ (((r_m_kindOf S k) ≠ 2 → (d_m_hasFlag S k 4 ∧ (((r_m_hasFlag S k 4) = 0 → (d_m_make k 2 S ∧ (match f_m_make k 2 S with | (_, S1) => True))) ∧ (¬ ((r_m_hasFlag S k 4) = 0) → (d_m_make k 1 S ∧ (match f_m_make k 1 S with | (_, S2) => True)))))) ∧ (¬ ((r_m_kindOf S k) ≠ 2) → (d_m_make k 3 S ∧ (match f_m_make k 3 S with | (_, S3) => True))))
theorem z_tail {S M : Nat → Nat → Int32} {T0 k : Int32} (hR : yR S M T0) (hy : yN S) (h0 : 0 ≤ k) (h1 : k < S 14 1) (h3 : S 2 (S 15 (k).toNatClampNeg).toNatClampNeg ≠ 3) :
    ∃ S' M', cTd k (S 15 (k).toNatClampNeg) S ∧ cTl k (S 15 (k).toNatClampNeg) S = (0, S') ∧ yF S S' ∧ mTd k M ∧ mTl k M = (0, M') ∧ yFm M M' ∧ ((yR S' M' T0 ∧ (S 0 3).toInt < (S' 0 3).toInt ∧ yN S') ∨ (S' 0 4 ≠ 0 ∧ yD S' ∧ M' 32 38 ≠ 0)) := by
  have hp := hR.1
  have hl := hR.2.1
  have hd := hR.2.2.1
  have E := yE_of hp hl hd
  have kd := q_kindOf (a := k) hp hl
  have kf := q_hasFlag (a := k) (b := 4) hp hl
  have i5 := (hR.2.2.2.1).1 (S 15 (k).toNatClampNeg).toNatClampNeg
  have hy1 : yN1 k S := fun u u0 u1 _ h => hy u u0 u1 h
  have d14b := hd.2.2.2.2.2.2.2.2.1
  have d15 := hd.2.2.2.2.2.2.2.2.2.1 (k).toNatClampNeg
  have vk : vp_in k 40 := v40 h0 (by grind)
  have vi : vp_in (S 15 (k).toNatClampNeg) 12 := v12 d15.1 d15.2
  have g1 := dm_kindOf E vk
  have g2 := dm_hasFlag (b := 4) E vk
  have g3 := dd_hasFlag (S := S) (b := 4) vi
  by_cases q1 : S 2 (S 15 (k).toNatClampNeg).toNatClampNeg = 2
  · obtain ⟨S', M', a1, a2, a3, a4, a5⟩ := z_make (mv := 3) hR h0 h1 (by decide) (by decide) (fun _ => Or.inl rfl) (fun h => absurd h (by decide)) (fun h => absurd h (by decide)) (fun h => absurd h (by decide)) hy1 (fun _ => hy)
    have c1 : d_c_make k 3 0 S := a1.1
    have c2 : f_c_make k 3 0 S = (0, S') := a1.2
    obtain ⟨b1, b2⟩ := a3
    have qm : ¬ r_m_kindOf M k ≠ 2 := fun h => h (by rw [kd]; exact q1)
    refine ⟨S', M', ?_, ?_, a2, ?_, ?_, a4, a5⟩
    · unfold cTd
      generalize f_c_make = FM at c2 ⊢
      rw [c2]
      exact ⟨vi, fun h => absurd q1 h, fun _ => ⟨c1, trivial⟩⟩
    · unfold cTl
      rw [if_neg (fun h => h q1), c2]
    · unfold mTd
      generalize f_m_make = FM at b2 ⊢
      rw [b2]
      refine ⟨g1, fun h => absurd h qm, fun _ => ⟨b1, trivial⟩⟩
    · unfold mTl
      rw [if_neg qm, b2]
  · have hk4 : 2 ≤ S 2 (S 15 (k).toNatClampNeg).toNatClampNeg → False := by grind
    have qm : r_m_kindOf M k ≠ 2 := by rw [kd]; exact q1
    by_cases q2 : r_p_hasFlag S (S 15 (k).toNatClampNeg) 4 = 0
    · obtain ⟨S', M', a1, a2, a3, a4, a5⟩ := z_make (mv := 2) hR h0 h1 (by decide) (by decide) (fun h => (hk4 h).elim) (fun h => absurd h (by decide)) (fun h => absurd h (by decide)) (fun h => absurd h (by decide)) hy1 (fun _ => hy)
      have c1 : d_c_make k 2 0 S := a1.1
      have c2 : f_c_make k 2 0 S = (0, S') := a1.2
      obtain ⟨b1, b2⟩ := a3
      have qn : r_m_hasFlag M k 4 = 0 := by rw [kf]; exact q2
      refine ⟨S', M', ?_, ?_, a2, ?_, ?_, a4, a5⟩
      · unfold cTd
        generalize f_c_make = FM at c2 ⊢
        rw [c2]
        refine ⟨vi, fun _ => ⟨g3, fun _ => ⟨c1, trivial⟩, fun h => absurd q2 h⟩, fun h => absurd q1 h⟩
      · unfold cTl
        rw [if_pos q1, if_pos q2, c2]
      · unfold mTd
        generalize f_m_make = FM at b2 ⊢
        rw [b2]
        refine ⟨g1, fun _ => ⟨g2, fun _ => ⟨b1, trivial⟩, fun h => absurd qn h⟩, fun h => absurd qm h⟩
      · unfold mTl
        rw [if_pos qm, if_pos qn, b2]
    · obtain ⟨S', M', a1, a2, a3, a4, a5⟩ := z_make (mv := 1) hR h0 h1 (by decide) (by decide) (fun h => (hk4 h).elim) (fun h => absurd h (by decide)) (fun h => absurd h (by decide)) (fun h => absurd h (by decide)) hy1 (fun _ => hy)
      have c1 : d_c_make k 1 0 S := a1.1
      have c2 : f_c_make k 1 0 S = (0, S') := a1.2
      obtain ⟨b1, b2⟩ := a3
      have qn : ¬ r_m_hasFlag M k 4 = 0 := by rw [kf]; exact q2
      refine ⟨S', M', ?_, ?_, a2, ?_, ?_, a4, a5⟩
      · unfold cTd
        generalize f_c_make = FM at c2 ⊢
        rw [c2]
        refine ⟨vi, fun _ => ⟨g3, fun h => absurd h q2, fun _ => ⟨c1, trivial⟩⟩, fun h => absurd q1 h⟩
      · unfold cTl
        rw [if_pos q1, if_neg q2, c2]
      · unfold mTd
        generalize f_m_make = FM at b2 ⊢
        rw [b2]
        refine ⟨g1, fun _ => ⟨g2, fun h => absurd h qn, fun _ => ⟨b1, trivial⟩⟩, fun h => absurd qm h⟩
      · unfold mTl
        rw [if_pos qm, if_neg qn, b2]
theorem z_tailc {S : Nat → Nat → Int32} {k it : Int32} (hs : S 0 4 ≠ 0) (hd : yD S) (vi : vp_in it 12) : ∃ S', cTd k it S ∧ cTl k it S = (0, S') ∧ yF S S' ∧ S' 0 4 ≠ 0 ∧ yD S' := by
  have g3 := dd_hasFlag (S := S) (b := 4) vi
  obtain ⟨z1, z2, z3⟩ := yZ_set hd
  have m1 := fun mv => cMk_cut (n := 599) (k := k) (mv := mv) (dep := 0) hs
  have c2 : ∀ mv, (fk_c_all 600).2.1 k mv 0 S = (0, xj_set S 0 4 1) := fun mv => (m1 mv).2
  have e1 : f_c_make k 1 0 S = (0, xj_set S 0 4 1) := c2 1
  have e2 : f_c_make k 2 0 S = (0, xj_set S 0 4 1) := c2 2
  have e3 : f_c_make k 3 0 S = (0, xj_set S 0 4 1) := c2 3
  have h1 : d_c_make k 1 0 S := (m1 1).1
  have h2 : d_c_make k 2 0 S := (m1 2).1
  have h3 : d_c_make k 3 0 S := (m1 3).1
  refine ⟨xj_set S 0 4 1, ?_, ?_, z3, z1, z2⟩
  · unfold cTd
    rw [e1, e2, e3]
    dsimp only
    repeat' (first | with_reducible exact trivial | with_reducible assumption | with_reducible apply And.intro | intro _)
  · unfold cTl
    rw [e1, e2, e3]
    split
    · split <;> rfl
    · rfl
theorem z_letIn {S M : Nat → Nat → Int32} {T0 k : Int32} (hR : yR S M T0) (hy : yN S) (h0 : 0 ≤ k) (h1 : k < S 14 1) (hs : S 17 (k).toNatClampNeg = 0) (h3 : S 2 (S 15 (k).toNatClampNeg).toNatClampNeg ≠ 3) :
    ∃ S' M', d_c_letIn k S ∧ f_c_letIn k S = (0, S') ∧ yF S S' ∧ d_m_letIn k M ∧ f_m_letIn k M = (0, M') ∧ yFm M M' ∧ ((yR S' M' T0 ∧ (S 0 3).toInt < (S' 0 3).toInt ∧ yN S') ∨ (S' 0 4 ≠ 0 ∧ yD S' ∧ M' 32 38 ≠ 0)) := by
  have hp := hR.1
  have hl := hR.2.1
  have hd := hR.2.2.1
  have hc := hR.2.2.2.2.2
  have hk := hR.2.2.2.2.1
  have E := yE_of hp hl hd
  have kf := q_hasFlag (a := k) (b := 1) hp hl
  have ke := q_hasEntry (a := k) hp hl hd
  have l45 := hl.2.1
  have l46 := hl.2.2.1
  have d14a := hd.2.2.2.2.2.2.2.1
  have d14b := hd.2.2.2.2.2.2.2.2.1
  have d15 := hd.2.2.2.2.2.2.2.2.2.1 (k).toNatClampNeg
  have d16 := hd.2.2.2.2.2.2.2.2.2.2 (k).toNatClampNeg
  have vk : vp_in k 40 := v40 h0 (by grind)
  have vi : vp_in (S 15 (k).toNatClampNeg) 12 := v12 d15.1 d15.2
  have g1 := dm_hasFlag (b := 1) E vk
  have g2 := dm_hasEntry E vk
  have g3 := dd_hasFlag (S := S) (b := 1) vi
  have g4 := dd_hasEntry (a := S 15 (k).toNatClampNeg) hd
  obtain ⟨c1, c2, c3, c4, c5, c6, c7, c8, c9, c10, c11⟩ := hc
  obtain ⟨k1, k2, k3, k4, k5, k6, k7, k8⟩ := hk
  have fC : f_c_letIn k S = if (r_p_hasFlag S (S 15 (k).toNatClampNeg) 1) = 0 then cTl k (S 15 (k).toNatClampNeg) S else (if (r_p_hasEntry S (S 15 (k).toNatClampNeg)) = 0 then cTl k (S 15 (k).toNatClampNeg) S else (match f_c_create (S 15 (k).toNatClampNeg) (S 16 (k).toNatClampNeg) 0 S with | (_, S7) => cTl k (S 15 (k).toNatClampNeg) S7)) := rfl
  have dC : d_c_letIn k S = (vp_in k 40 ∧ (d_p_hasFlag S (S 15 (k).toNatClampNeg) 1 ∧ (((r_p_hasFlag S (S 15 (k).toNatClampNeg) 1) = 0 → cTd k (S 15 (k).toNatClampNeg) S) ∧ (¬ ((r_p_hasFlag S (S 15 (k).toNatClampNeg) 1) = 0) → (d_p_hasEntry S (S 15 (k).toNatClampNeg) ∧ (((r_p_hasEntry S (S 15 (k).toNatClampNeg)) = 0 → cTd k (S 15 (k).toNatClampNeg) S) ∧ (¬ ((r_p_hasEntry S (S 15 (k).toNatClampNeg)) = 0) → (vp_in k 40 ∧ (d_c_create (S 15 (k).toNatClampNeg) (S 16 (k).toNatClampNeg) 0 S ∧ (match f_c_create (S 15 (k).toNatClampNeg) (S 16 (k).toNatClampNeg) 0 S with | (_, S7) => cTd k (S 15 (k).toNatClampNeg) S7)))))))))) := rfl
  have fM : f_m_letIn k M = if (r_m_hasFlag M k 1) = 0 then (if (M 32 38) = 0 then mTl k M else (0, M)) else (if (r_m_hasEntry M k) = 0 then (if (M 32 38) = 0 then mTl k M else (0, M)) else (match f_m_create (M 45 (k).toNatClampNeg) (M 46 (k).toNatClampNeg) M with | (_, S7) => if (S7 32 38) = 0 then mTl k S7 else (0, S7))) := rfl
  have dM : d_m_letIn k M = (d_m_hasFlag M k 1 ∧ (((r_m_hasFlag M k 1) = 0 → (((M 32 38) = 0 → mTd k M) ∧ (¬ ((M 32 38) = 0) → (True)))) ∧ (¬ ((r_m_hasFlag M k 1) = 0) → (d_m_hasEntry M k ∧ (((r_m_hasEntry M k) = 0 → (((M 32 38) = 0 → mTd k M) ∧ (¬ ((M 32 38) = 0) → (True)))) ∧ (¬ ((r_m_hasEntry M k) = 0) → (vp_in k 40 ∧ (vp_in k 40 ∧ (d_m_create (M 45 (k).toNatClampNeg) (M 46 (k).toNatClampNeg) M ∧ (match f_m_create (M 45 (k).toNatClampNeg) (M 46 (k).toNatClampNeg) M with | (_, S7) => ((S7 32 38) = 0 → mTd k S7) ∧ (¬ ((S7 32 38) = 0) → (True)))))))))))) := rfl
  rw [fC, dC, fM, dM, kf, ke]
  by_cases q1 : r_p_hasFlag S (S 15 (k).toNatClampNeg) 1 = 0
  · obtain ⟨S', M', a1, a2, a3, a4, a5, a6, a7⟩ := z_tail hR hy h0 h1 h3
    rw [if_pos q1, if_pos q1, if_pos c11]
    exact ⟨S', M', ⟨vk, g3, fun _ => a1, fun h => absurd q1 h⟩, a2, a3, ⟨g1, fun _ => ⟨fun _ => a4, fun h => absurd c11 h⟩, fun h => absurd q1 h⟩, a5, a6, a7⟩
  · rw [if_neg q1, if_neg q1]
    by_cases q2 : r_p_hasEntry S (S 15 (k).toNatClampNeg) = 0
    · obtain ⟨S', M', a1, a2, a3, a4, a5, a6, a7⟩ := z_tail hR hy h0 h1 h3
      rw [if_pos q2, if_pos q2, if_pos c11]
      exact ⟨S', M', ⟨vk, g3, fun h => absurd h q1, fun _ => ⟨g4, fun _ => a1, fun h => absurd q2 h⟩⟩, a2, a3, ⟨g1, fun h => absurd h q1, fun _ => ⟨g2, fun _ => ⟨fun _ => a4, fun h => absurd c11 h⟩, fun h => absurd q2 h⟩⟩, a5, a6, a7⟩
    · rw [if_neg q2, if_neg q2]
      have pn : S 16 (k).toNatClampNeg ≠ -1 := fun h => hy k h0 h1 h hs
      have p0 : 0 ≤ S 16 (k).toNatClampNeg := by grind
      obtain ⟨S1, M1, b1, b2, b3, b4, b5, b6, b7, b8, b9⟩ := z_create (it := S 15 (k).toNatClampNeg) (par := S 16 (k).toNatClampNeg) (dep := 0) 597 hR d15.1 d15.2 (Or.inr ⟨p0, k8 k h0 h1, k2 k h0 h1 p0⟩) (by decide)
      have c1' : d_c_create (S 15 (k).toNatClampNeg) (S 16 (k).toNatClampNeg) 0 S := b1.1
      have c2' : f_c_create (S 15 (k).toNatClampNeg) (S 16 (k).toNatClampNeg) 0 S = (0, S1) := b1.2
      rw [← l45, ← l46] at b3
      obtain ⟨m1, m2⟩ := b3
      rw [c2', m2]
      rcases b9 with ⟨r1, r2, r3, r4, r5, r6, r7⟩ | ⟨r1, r2, r3, _⟩
      · have ne : (k).toNatClampNeg ≠ (S 14 1).toNatClampNeg := ix_ne h0 d14a (by grind)
        obtain ⟨o1, o2, o3⟩ := r4 _ ne
        have f2 : S1 2 = S 2 := b2.1 2 rfl
        obtain ⟨S', M', a1, a2, a3, a4, a5, a6, a7⟩ := z_tail (k := k) r1 (yN_new d14a r3 r4 (by rw [r6]; exact pn) hy) h0 (by rw [r3]; grind) (by rw [o1, f2]; exact h3)
        rw [o1] at a1 a2
        have c38 : M1 32 38 = 0 := r1.2.2.2.2.2.2.2.2.2.2.2.2.2.2.2
        refine ⟨S', M', ⟨vk, g3, fun h => absurd h q1, fun _ => ⟨g4, fun h => absurd h q2, fun _ => ⟨vk, c1', a1⟩⟩⟩, a2, b2.tr a3, ⟨g1, fun h => absurd h q1, fun _ => ⟨g2, fun h => absurd h q2, fun _ => ⟨vk, vk, m1, fun _ => a4, fun h => absurd c38 h⟩⟩⟩, ?_, b4.tr a6, ?_⟩
        · show (if M1 32 38 = 0 then mTl k M1 else (0, M1)) = _
          rw [if_pos c38]
          exact a5
        · rcases a7 with ⟨v1, v2, v3⟩ | v
          · refine Or.inl ⟨v1, ?_, v3⟩
            have z : S 0 3 < 61 := by grind
            have := i_t1 c4 z
            rw [r2] at v2
            omega
          · exact Or.inr v
      · obtain ⟨S', a1, a2, a3, a4, a5⟩ := z_tailc (k := k) (it := S 15 (k).toNatClampNeg) r1 r2 vi
        refine ⟨S', M1, ⟨vk, g3, fun h => absurd h q1, fun _ => ⟨g4, fun h => absurd h q2, fun _ => ⟨vk, c1', a1⟩⟩⟩, a2, b2.tr a3, ⟨g1, fun h => absurd h q1, fun _ => ⟨g2, fun h => absurd h q2, fun _ => ⟨vk, vk, m1, fun h => absurd h r3, fun _ => trivial⟩⟩⟩, ?_, b4, Or.inr ⟨a4, a5, r3⟩⟩
        show (if M1 32 38 = 0 then mTl k M1 else (0, M1)) = _
        rw [if_neg r3]
