/-! a method that stores: our machine does so -/
set_option maxHeartbeats 4000000 in
set_option maxRecDepth 100000 in
theorem ok_c_openCommand {L : Nat} {xs : Nat → Int32} {T : Nat → Nat → Int64} {D : Nat} {S : (Nat → Nat → Int32)} {P : (Option Value ⊕ Nat) → xj_W → Nat → Nat → Prop} (hD : 1 ≤ D) (hd : d_c_openCommand  S) (h : ∀ v S9, (v, S9) = f_c_openCommand  S → P (.inl none) (SH, S9, T) 0 0) : xj_E (xX L xs) D 47 0 [(0, .ref 0)] [] (SH, S, T) P := by
  unfold d_c_openCommand at hd
  unfold f_c_openCommand at h
  obtain ⟨D1, rfl⟩ : ∃ D1, D = D1 + 1 := ⟨D - 1, by omega⟩
  refine xj_E.adv 4 (pc' := 8) (ls' := [(0, .ref 0)]) (st' := [.ref 14, .ref 23]) (w' := (SH, S, T)) rfl ?_
  refine xj_E.callv (d := D1) (S := SH) rfl rfl rfl rfl rfl (ok_l_copyFrom23 (by omega) hd.1 ?_)
  intro v1 S1 e1
  refine ⟨_, _, rfl, rfl, rfl, rfl, ?_⟩
  have hd := hd.2
  generalize f_l_copyFrom23 S = Xe1 at e1 hd h
  subst e1
  refine xj_E.adv 6 (pc' := 21) (ls' := [(0, .ref 0)]) (st' := []) (w' := (SH, (xj_set (xj_set S1 0 3 0) 0 4 0), T)) rfl ?_
  exact xj_E.ret rfl rfl rfl rfl (h _ _ rfl)
