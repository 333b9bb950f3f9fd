/-! a method that stores: our machine does so -/
set_option maxHeartbeats 4000000 in
set_option maxRecDepth 100000 in
theorem ok_m_move {L : Nat} {xs : Nat → Int32} {T : Nat → Nat → Int64} {D : Nat} {S : (Nat → Nat → Int32)} {P : (Option Value ⊕ Nat) → xj_W → Nat → Nat → Prop} {a b : Int32} (hD : 9 ≤ D) (hd : d_m_move a b S) (h : ∀ v S9, (v, S9) = f_m_move a b S → P (.inl (some (.int v))) (SH, S9, T) 0 0) : xj_E (xX L xs) D 104 0 [(0, .ref 32), (1, .int a), (2, .int b)] [] (SH, S, T) P := by
  unfold d_m_move at hd
  unfold f_m_move at h
  obtain ⟨D1, rfl⟩ : ∃ D1, D = D1 + 1 := ⟨D - 1, by omega⟩
  refine xj_E.adv 4 (pc' := 4) (ls' := [(0, .ref 32), (1, .int a), (2, .int b)]) (st' := [.int b, .int a, .ref 32, .ref 32]) (w' := (SH, S, T)) rfl ?_
  refine xj_E.calli (d := D1) (S := SH) rfl rfl rfl rfl rfl (xj_E.deep (ok_m_refusal (d := 0) hd.1 ?_) (by omega))
  intro w1 f1
  refine ⟨_, _, _, rfl, rfl, rfl, rfl, ?_⟩
  have hd := hd.2
  rw [← f1] at hd
  have h : ∀ v S9, (v, S9) = ((if (r_m_refusal S a b) = 0 then (match f_m_keep (xj_set S 32 0 (r_m_refusal S a b)) with | (_, S1) => match f_m_make a b S1 with | (_, S2) => match f_m_finish 4 S2 with | (v3, S3) => (v3, S3)) else ((0, (xj_set S 32 0 (r_m_refusal S a b))))) : Int32 × (Nat → Nat → Int32)) → P (.inl (some (.int v))) (SH, S9, T) 0 0 := h
  rw [← f1] at h
  refine xj_E.adv 4 (pc' := (if xj_cmp .eq w1 0 = true then 19 else 17)) (ls' := [(0, .ref 32), (1, .int a), (2, .int b)]) (st' := []) (w' := (SH, (xj_set S 32 0 w1), T)) rfl ?_
  refine xj_E.b_eq (fun q => ?_) (fun q => ?_)
  · have hd := hd.1 q
    have h := fun v S9 e => h v S9 (Eq.trans e (if_pos q).symm)
    refine xj_E.adv 1 (pc' := 20) (ls' := [(0, .ref 32), (1, .int a), (2, .int b)]) (st' := [.ref 32]) (w' := (SH, (xj_set S 32 0 w1), T)) rfl ?_
    refine xj_E.callv (d := D1) (S := SH) rfl rfl rfl rfl rfl (ok_m_keep (by omega) hd.1 ?_)
    intro v1 S1 e1
    refine ⟨_, _, rfl, rfl, rfl, rfl, ?_⟩
    have hd := hd.2
    generalize f_m_keep (xj_set S 32 0 w1) = Xe1 at e1 hd h
    subst e1
    have h : ∀ v S9, (v, S9) = ((match f_m_make a b S1 with | (_, S2) => match f_m_finish 4 S2 with | (v3, S3) => (v3, S3)) : Int32 × (Nat → Nat → Int32)) → P (.inl (some (.int v))) (SH, S9, T) 0 0 := h
    refine xj_E.adv 3 (pc' := 26) (ls' := [(0, .ref 32), (1, .int a), (2, .int b)]) (st' := [.int b, .int a, .ref 32]) (w' := (SH, S1, T)) rfl ?_
    refine xj_E.callv (d := D1) (S := SH) rfl rfl rfl rfl rfl (ok_m_make (by omega) hd.1 ?_)
    intro v2 S2 e2
    refine ⟨_, _, rfl, rfl, rfl, rfl, ?_⟩
    have hd := hd.2
    generalize f_m_make a b S1 = Xe2 at e2 hd h
    subst e2
    have h : ∀ v S9, (v, S9) = ((match f_m_finish 4 S2 with | (v3, S3) => (v3, S3)) : Int32 × (Nat → Nat → Int32)) → P (.inl (some (.int v))) (SH, S9, T) 0 0 := h
    refine xj_E.adv 2 (pc' := 31) (ls' := [(0, .ref 32), (1, .int a), (2, .int b)]) (st' := [.int 4, .ref 32]) (w' := (SH, S2, T)) rfl ?_
    refine xj_E.calli (d := D1) (S := SH) rfl rfl rfl rfl rfl (ok_m_finish (by omega) hd.1 ?_)
    intro v3 S3 e3
    refine ⟨_, _, _, rfl, rfl, rfl, rfl, ?_⟩
    have hd := hd.2
    generalize f_m_finish 4 S2 = Xe3 at e3 hd h
    subst e3
    exact xj_E.ret rfl rfl rfl rfl (h _ _ rfl)
  · have hd := hd.2 q
    have h := fun v S9 e => h v S9 (Eq.trans e (if_neg q).symm)
    refine xj_E.adv 1 (pc' := 18) (ls' := [(0, .ref 32), (1, .int a), (2, .int b)]) (st' := [.int 0]) (w' := (SH, (xj_set S 32 0 w1), T)) rfl ?_
    exact xj_E.ret rfl rfl rfl rfl (h _ _ rfl)
