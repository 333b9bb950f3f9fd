/-! a method that stores: our machine does so -/
set_option maxHeartbeats 4000000 in
set_option maxRecDepth 100000 in
theorem ok_m_keep {L : Nat} {xs : Nat → Int32} {T : Nat → Nat → Int64} {D : Nat} {S : (Nat → Nat → Int32)} {P : (Option Value ⊕ Nat) → xj_W → Nat → Nat → Prop} (hD : 0 ≤ D) (hd : d_m_keep  S) (h : ∀ v S9, (v, S9) = f_m_keep  S → P (.inl none) (SH, S9, T) 0 0) : xj_E (xX L xs) D 98 0 [(0, .ref 32)] [] (SH, S, T) P := by
  unfold d_m_keep at hd
  unfold f_m_keep at h
  refine xj_E.adv 10 (pc' := 18) (ls' := [(1, .int 0), (0, .ref 32)]) (st' := []) (w' := (SH, (xj_set (xj_set S 32 27 (S 32 17)) 32 34 (S 32 24)), T)) rfl ?_
  refine xj_E.loc [0, 1] xhth rfl (show xj_E (xX L xs) D 98 18 [(0, .ref 32), (1, .int 0)] [] (SH, (xj_set (xj_set S 32 27 (S 32 17)) 32 34 (S 32 24)), T) P from ?_)
  exact ((okk_m_keep 200).1) _ _ _ _ (by omega) hd h
