/-! a method that stores: our machine does so -/
set_option maxHeartbeats 4000000 in
set_option maxRecDepth 100000 in
theorem ok_m_fail {L : Nat} {xs : Nat → Int32} {T : Nat → Nat → Int64} {D : Nat} {S : (Nat → Nat → Int32)} {P : (Option Value ⊕ Nat) → xj_W → Nat → Nat → Prop} {a : Int32} (hD : 0 ≤ D) (hd : d_m_fail a S) (h : ∀ v S9, (v, S9) = f_m_fail a S → P (.inl (some (.int v))) (SH, S9, T) 0 0) : xj_E (xX L xs) D 69 0 [(0, .ref 32), (1, .int a)] [] (SH, S, T) P := by
  unfold d_m_fail at hd
  unfold f_m_fail at h
  refine xj_E.adv 4 (pc' := 6) (ls' := [(0, .ref 32), (1, .int a)]) (st' := [.int 0]) (w' := (SH, (xj_set S 32 0 a), T)) rfl ?_
  exact xj_E.ret rfl rfl rfl rfl (h _ _ rfl)
