/-! a method that stores: our machine does so -/
set_option maxHeartbeats 4000000 in
set_option maxRecDepth 100000 in
theorem ok_m_instances {L : Nat} {xs : Nat → Int32} {T : Nat → Nat → Int64} {D : Nat} {S : (Nat → Nat → Int32)} {P : (Option Value ⊕ Nat) → xj_W → Nat → Nat → Prop} (hD : 0 ≤ D) (hd : d_m_instances  S) (h : ∀ v S9, (v, S9) = f_m_instances  S → P (.inl (some (.int v))) (SH, S9, T) 0 0) : xj_E (xX L xs) D 109 0 [(0, .ref 32)] [] (SH, S, T) P := by
  unfold d_m_instances at hd
  unfold f_m_instances at h
  refine xj_E.adv 5 (pc' := 9) (ls' := [(0, .ref 32)]) (st' := [.int (S 32 17)]) (w' := (SH, (xj_set S 32 0 0), T)) rfl ?_
  exact xj_E.ret rfl rfl rfl rfl (h _ _ rfl)
