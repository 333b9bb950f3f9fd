/-! a method that stores: our machine does so -/
set_option maxHeartbeats 4000000 in
set_option maxRecDepth 100000 in
theorem ok_p_addSentry {L : Nat} {xs : Nat → Int32} {T : Nat → Nat → Int64} {D : Nat} {S : (Nat → Nat → Int32)} {P : (Option Value ⊕ Nat) → xj_W → Nat → Nat → Prop} {a b : Int32} (hD : 1 ≤ D) (hd : d_p_addSentry a b S) (h : ∀ v S9, (v, S9) = f_p_addSentry a b S → P (.inl (some (.int v))) (SH, S9, T) 0 0) : xj_E (xX L xs) D 18 0 [(0, .ref 1), (1, .int a), (2, .int b)] [] (SH, S, T) P := by
  unfold d_p_addSentry at hd
  unfold f_p_addSentry at h
  refine xj_E.adv 7 (pc' := 11) (ls' := [(3, .int (S 1 5)), (0, .ref 1), (1, .int a), (2, .int b)]) (st' := [.int a, .int (S 1 5), .ref 6]) (w' := (SH, S, T)) rfl ?_
  refine xj_E.iast rfl rfl hd.1 ?_
  have hd := hd.2
  refine xj_E.adv 4 (pc' := 18) (ls' := [(3, .int (S 1 5)), (0, .ref 1), (1, .int a), (2, .int b)]) (st' := [.int b, .int (S 1 5), .ref 7]) (w' := (SH, (xj_set S 6 (S 1 5).toNatClampNeg a), T)) rfl ?_
  refine xj_E.bast rfl rfl hd.1 ?_
  have hd := hd.2
  refine xj_E.adv 4 (pc' := 25) (ls' := [(3, .int (S 1 5)), (0, .ref 1), (1, .int a), (2, .int b)]) (st' := [.int (-1), .int (S 1 5), .ref 11]) (w' := (SH, (xj_set (xj_set S 6 (S 1 5).toNatClampNeg a) 7 (S 1 5).toNatClampNeg (b &&& 1)), T)) rfl ?_
  refine xj_E.iast rfl rfl hd.1 ?_
  have hd := hd.2
  refine xj_E.adv 2 (pc' := 29) (ls' := [(4, .int 0), (3, .int (S 1 5)), (0, .ref 1), (1, .int a), (2, .int b)]) (st' := []) (w' := (SH, (xj_set (xj_set (xj_set S 6 (S 1 5).toNatClampNeg a) 7 (S 1 5).toNatClampNeg (b &&& 1)) 11 (S 1 5).toNatClampNeg (-1)), T)) rfl ?_
  refine xj_E.loc [0, 1, 3, 4] xhth rfl (show xj_E (xX L xs) D 18 29 [(0, .ref 1), (1, .int a), (3, .int (S 1 5)), (4, .int 0)] [] (SH, (xj_set (xj_set (xj_set S 6 (S 1 5).toNatClampNeg a) 7 (S 1 5).toNatClampNeg (b &&& 1)) 11 (S 1 5).toNatClampNeg (-1)), T) P from ?_)
  exact ((okk_p_addSentry 200)) _ _ _ _ _ _ (by omega) hd h
