/-! a method that stores: our machine does so -/
set_option maxHeartbeats 4000000 in
set_option maxRecDepth 100000 in
theorem ok_m_finish {L : Nat} {xs : Nat → Int32} {T : Nat → Nat → Int64} {D : Nat} {S : (Nat → Nat → Int32)} {P : (Option Value ⊕ Nat) → xj_W → Nat → Nat → Prop} {a : Int32} (hD : 8 ≤ D) (hd : d_m_finish a S) (h : ∀ v S9, (v, S9) = f_m_finish a S → P (.inl (some (.int v))) (SH, S9, T) 0 0) : xj_E (xX L xs) D 100 0 [(0, .ref 32), (1, .int a)] [] (SH, S, T) P := by
  unfold d_m_finish at hd
  unfold f_m_finish at h
  obtain ⟨D1, rfl⟩ : ∃ D1, D = D1 + 1 := ⟨D - 1, by omega⟩
  refine xj_E.adv 1 (pc' := 1) (ls' := [(0, .ref 32), (1, .int a)]) (st' := [.ref 32]) (w' := (SH, S, T)) rfl ?_
  refine xj_E.callv (d := D1) (S := SH) rfl rfl rfl rfl rfl (ok_m_workOff (by omega) hd.1 ?_)
  intro v1 S1 e1
  refine ⟨_, _, rfl, rfl, rfl, rfl, ?_⟩
  have hd := hd.2
  generalize f_m_workOff S = Xe1 at e1 hd h
  subst e1
  have h : ∀ v S9, (v, S9) = ((if (S1 32 38) ≠ 0 then (match f_m_putBack S1 with | (_, S2) => match f_m_fail a S2 with | (v3, S3) => (v3, S3)) else ((S1 32 37, S1))) : Int32 × (Nat → Nat → Int32)) → P (.inl (some (.int v))) (SH, S9, T) 0 0 := h
  refine xj_E.adv 3 (pc' := (if xj_cmp .ne (S1 32 38) 0 = true then 16 else 11)) (ls' := [(0, .ref 32), (1, .int a)]) (st' := []) (w' := (SH, S1, T)) rfl ?_
  refine xj_E.b_ne (fun q => ?_) (fun q => ?_)
  · have hd := hd.1 q
    have h := fun v S9 e => h v S9 (Eq.trans e (if_pos q).symm)
    refine xj_E.adv 1 (pc' := 17) (ls' := [(0, .ref 32), (1, .int a)]) (st' := [.ref 32]) (w' := (SH, S1, T)) rfl ?_
    refine xj_E.callv (d := D1) (S := SH) rfl rfl rfl rfl rfl (ok_m_putBack (by omega) hd.1 ?_)
    intro v2 S2 e2
    refine ⟨_, _, rfl, rfl, rfl, rfl, ?_⟩
    have hd := hd.2
    generalize f_m_putBack S1 = Xe2 at e2 hd h
    subst e2
    have h : ∀ v S9, (v, S9) = ((match f_m_fail a S2 with | (v3, S3) => (v3, S3)) : Int32 × (Nat → Nat → Int32)) → P (.inl (some (.int v))) (SH, S9, T) 0 0 := h
    refine xj_E.adv 2 (pc' := 22) (ls' := [(0, .ref 32), (1, .int a)]) (st' := [.int a, .ref 32]) (w' := (SH, S2, T)) rfl ?_
    refine xj_E.calli (d := D1) (S := SH) rfl rfl rfl rfl rfl (ok_m_fail (by omega) hd.1 ?_)
    intro v3 S3 e3
    refine ⟨_, _, _, rfl, rfl, rfl, rfl, ?_⟩
    have hd := hd.2
    generalize f_m_fail a S2 = Xe3 at e3 hd h
    subst e3
    exact xj_E.ret rfl rfl rfl rfl (h _ _ rfl)
  · have hd := hd.2 q
    have h := fun v S9 e => h v S9 (Eq.trans e (if_neg q).symm)
    refine xj_E.adv 2 (pc' := 15) (ls' := [(0, .ref 32), (1, .int a)]) (st' := [.int (S1 32 37)]) (w' := (SH, S1, T)) rfl ?_
    exact xj_E.ret rfl rfl rfl rfl (h _ _ rfl)
