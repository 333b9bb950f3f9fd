/-! a method that stores: our machine does so -/
set_option maxHeartbeats 4000000 in
set_option maxRecDepth 100000 in
theorem ok_m_workOff {L : Nat} {xs : Nat → Int32} {T : Nat → Nat → Int64} {D : Nat} {S : (Nat → Nat → Int32)} {P : (Option Value ⊕ Nat) → xj_W → Nat → Nat → Prop} (hD : 7 ≤ D) (hd : d_m_workOff  S) (h : ∀ v S9, (v, S9) = f_m_workOff  S → P (.inl none) (SH, S9, T) 0 0) : xj_E (xX L xs) D 97 0 [(0, .ref 32)] [] (SH, S, T) P := by
  unfold d_m_workOff at hd
  unfold f_m_workOff at h
  refine xj_E.adv 2 (pc' := 2) (ls' := [(1, .int 1), (0, .ref 32)]) (st' := []) (w' := (SH, S, T)) rfl ?_
  refine xj_E.loc [0, 1] xhth rfl (show xj_E (xX L xs) D 97 2 [(0, .ref 32), (1, .int 1)] [] (SH, S, T) P from ?_)
  exact ((okk_m_workOff 200)) _ _ _ _ (by omega) hd h
