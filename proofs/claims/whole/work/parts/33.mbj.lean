/-! a method that stores: our machine does so -/
set_option maxHeartbeats 4000000 in
set_option maxRecDepth 100000 in
theorem ok_c_markSiblings {L : Nat} {xs : Nat → Int32} {T : Nat → Nat → Int64} {D : Nat} {S : (Nat → Nat → Int32)} {P : (Option Value ⊕ Nat) → xj_W → Nat → Nat → Prop} {a b : Int32} (hD : 2 ≤ D) (hd : d_c_markSiblings a b S) (h : ∀ v S9, (v, S9) = f_c_markSiblings a b S → P (.inl none) (SH, S9, T) 0 0) : xj_E (xX L xs) D 59 0 [(0, .ref 0), (1, .int a), (2, .int b)] [] (SH, S, T) P := by
  unfold d_c_markSiblings at hd
  unfold f_c_markSiblings at h
  refine xj_E.adv 2 (pc' := 2) (ls' := [(3, .int 0), (0, .ref 0), (1, .int a), (2, .int b)]) (st' := []) (w' := (SH, S, T)) rfl ?_
  refine xj_E.loc [0, 1, 2, 3] xhth rfl (show xj_E (xX L xs) D 59 2 [(0, .ref 0), (1, .int a), (2, .int b), (3, .int 0)] [] (SH, S, T) P from ?_)
  exact ((okk_c_markSiblings 200)) _ _ _ _ _ _ (by omega) hd h
