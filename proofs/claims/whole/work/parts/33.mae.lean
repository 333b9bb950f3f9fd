/-! a method that stores: our machine does so -/
set_option maxHeartbeats 4000000 in
set_option maxRecDepth 100000 in
theorem ok_p_addItem {L : Nat} {xs : Nat → Int32} {T : Nat → Nat → Int64} {D : Nat} {S : (Nat → Nat → Int32)} {P : (Option Value ⊕ Nat) → xj_W → Nat → Nat → Prop} {a b c : Int32} (hD : 0 ≤ D) (hd : d_p_addItem a b c S) (h : ∀ v S9, (v, S9) = f_p_addItem a b c S → P (.inl (some (.int v))) (SH, S9, T) 0 0) : xj_E (xX L xs) D 16 0 [(0, .ref 1), (1, .int a), (2, .int b), (3, .int c)] [] (SH, S, T) P := by
  unfold d_p_addItem at hd
  unfold f_p_addItem at h
  refine xj_E.adv 5 (pc' := 9) (ls' := [(0, .ref 1), (1, .int a), (2, .int b), (3, .int c)]) (st' := [.int a, .int (S 1 0), .ref 2]) (w' := (SH, S, T)) rfl ?_
  refine xj_E.iast rfl rfl hd.1 ?_
  have hd := hd.2
  refine xj_E.adv 5 (pc' := 19) (ls' := [(0, .ref 1), (1, .int a), (2, .int b), (3, .int c)]) (st' := [.int b, .int (S 1 0), .ref 3]) (w' := (SH, (xj_set S 2 (S 1 0).toNatClampNeg a), T)) rfl ?_
  refine xj_E.iast rfl rfl hd.1 ?_
  have hd := hd.2
  refine xj_E.adv 5 (pc' := 29) (ls' := [(0, .ref 1), (1, .int a), (2, .int b), (3, .int c)]) (st' := [.int c, .int (S 1 0), .ref 4]) (w' := (SH, (xj_set (xj_set S 2 (S 1 0).toNatClampNeg a) 3 (S 1 0).toNatClampNeg b), T)) rfl ?_
  refine xj_E.iast rfl rfl hd.1 ?_
  have hd := hd.2
  refine xj_E.adv 10 (pc' := 46) (ls' := [(0, .ref 1), (1, .int a), (2, .int b), (3, .int c)]) (st' := [.int (((S 1 0) + 1) - 1)]) (w' := (SH, (xj_set (xj_set (xj_set (xj_set S 2 (S 1 0).toNatClampNeg a) 3 (S 1 0).toNatClampNeg b) 4 (S 1 0).toNatClampNeg c) 1 0 ((S 1 0) + 1)), T)) rfl ?_
  exact xj_E.ret rfl rfl rfl rfl (h _ _ rfl)
