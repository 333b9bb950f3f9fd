/-! a method that stores: our machine does so -/
set_option maxHeartbeats 4000000 in
set_option maxRecDepth 100000 in
theorem ok_l_add {L : Nat} {xs : Nat → Int32} {T : Nat → Nat → Int64} {D : Nat} {S : (Nat → Nat → Int32)} {P : (Option Value ⊕ Nat) → xj_W → Nat → Nat → Prop} {a b : Int32} (hD : 0 ≤ D) (hd : d_l_add a b S) (h : ∀ v S9, (v, S9) = f_l_add a b S → P (.inl (some (.int v))) (SH, S9, T) 0 0) : xj_E (xX L xs) D 7 0 [(0, .ref 14), (1, .int a), (2, .int b)] [] (SH, S, T) P := by
  unfold d_l_add at hd
  unfold f_l_add at h
  refine xj_E.adv 5 (pc' := 9) (ls' := [(0, .ref 14), (1, .int a), (2, .int b)]) (st' := [.int a, .int (S 14 1), .ref 15]) (w' := (SH, S, T)) rfl ?_
  refine xj_E.iast rfl rfl hd.1 ?_
  have hd := hd.2
  refine xj_E.adv 5 (pc' := 19) (ls' := [(0, .ref 14), (1, .int a), (2, .int b)]) (st' := [.int b, .int (S 14 1), .ref 16]) (w' := (SH, (xj_set S 15 (S 14 1).toNatClampNeg a), T)) rfl ?_
  refine xj_E.iast rfl rfl hd.1 ?_
  have hd := hd.2
  refine xj_E.adv 10 (pc' := 36) (ls' := [(0, .ref 14), (1, .int a), (2, .int b)]) (st' := [.int (((S 14 1) + 1) - 1)]) (w' := (SH, (xj_set (xj_set (xj_set S 15 (S 14 1).toNatClampNeg a) 16 (S 14 1).toNatClampNeg b) 14 1 ((S 14 1) + 1)), T)) rfl ?_
  exact xj_E.ret rfl rfl rfl rfl (h _ _ rfl)
