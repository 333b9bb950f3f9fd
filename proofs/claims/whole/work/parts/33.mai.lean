/-! a method that stores: our machine does so -/
set_option maxHeartbeats 4000000 in
set_option maxRecDepth 100000 in
theorem ok_p_putIfPart {L : Nat} {xs : Nat → Int32} {T : Nat → Nat → Int64} {D : Nat} {S : (Nat → Nat → Int32)} {P : (Option Value ⊕ Nat) → xj_W → Nat → Nat → Prop} {a b c d : Int32} (hD : 0 ≤ D) (hd : d_p_putIfPart a b c d S) (h : ∀ v S9, (v, S9) = f_p_putIfPart a b c d S → P (.inl none) (SH, S9, T) 0 0) : xj_E (xX L xs) D 23 0 [(0, .ref 1), (1, .int a), (2, .int b), (3, .int c), (4, .int d)] [] (SH, S, T) P := by
  unfold d_p_putIfPart at hd
  unfold f_p_putIfPart at h
  refine xj_E.adv 4 (pc' := 6) (ls' := [(0, .ref 1), (1, .int a), (2, .int b), (3, .int c), (4, .int d)]) (st' := [.int b, .int a, .ref 12]) (w' := (SH, S, T)) rfl ?_
  refine xj_E.iast rfl rfl hd.1 ?_
  have hd := hd.2
  refine xj_E.adv 4 (pc' := 13) (ls' := [(0, .ref 1), (1, .int a), (2, .int b), (3, .int c), (4, .int d)]) (st' := [.int c, .int a, .ref 11]) (w' := (SH, (xj_set S 12 a.toNatClampNeg b), T)) rfl ?_
  refine xj_E.iast rfl rfl hd.1 ?_
  have hd := hd.2
  refine xj_E.adv 4 (pc' := 21) (ls' := [(0, .ref 1), (1, .int a), (2, .int b), (3, .int c), (4, .int d)]) (st' := [.int d, .int a, .ref 13]) (w' := (SH, (xj_set (xj_set S 12 a.toNatClampNeg b) 11 a.toNatClampNeg c), T)) rfl ?_
  refine xj_E.iast rfl rfl hd.1 ?_
  have hd := hd.2
  exact xj_E.ret rfl rfl rfl rfl (h _ _ rfl)
