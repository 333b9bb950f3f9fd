/-! a method that may throw: our machine does so -/
set_option maxHeartbeats 4000000 in
set_option maxRecDepth 100000 in
theorem ok_c_workOff {L : Nat} {xs : Nat → Int32} {T : Nat → Nat → Int64} {D : Nat} {S : (Nat → Nat → Int32)} {P : (Option Value ⊕ Nat) → xj_W → Nat → Nat → Prop} (hD : 605 ≤ D) (hd : d_c_workOff  S) (h : ∀ v S9, (0, v, S9) = f_c_workOff  S → P (.inl (some (.int v))) (SH, S9, T) 0 0) (ht : ∀ q v S9, (q + 1, v, S9) = f_c_workOff  S → P (.inr q) (SH, S9, T) 1 6) : xj_E (xX L xs) D 48 0 [(0, .ref 0)] [] (SH, S, T) P := by
  unfold d_c_workOff at hd
  unfold f_c_workOff at h ht
  refine xj_E.adv 2 (pc' := 2) (ls' := [(1, .int 0), (0, .ref 0)]) (st' := []) (w' := (SH, S, T)) rfl ?_
  refine xj_E.loc [0, 1] xhth rfl (show xj_E (xX L xs) D 48 2 [(0, .ref 0), (1, .int 0)] [] (SH, S, T) P from ?_)
  exact ((okk_c_workOff 200)) _ _ _ _ (by omega) hd h ht
