/-! a method that stores: our machine does so -/
set_option maxHeartbeats 4000000 in
set_option maxRecDepth 100000 in
theorem ok_p_addPart {L : Nat} {xs : Nat → Int32} {T : Nat → Nat → Int64} {D : Nat} {S : (Nat → Nat → Int32)} {P : (Option Value ⊕ Nat) → xj_W → Nat → Nat → Prop} {a b c : Int32} (hD : 0 ≤ D) (hd : d_p_addPart a b c S) (h : ∀ v S9, (v, S9) = f_p_addPart a b c S → P (.inl (some (.int v))) (SH, S9, T) 0 0) : xj_E (xX L xs) D 22 0 [(0, .ref 1), (1, .int a), (2, .int b), (3, .int c)] [] (SH, S, T) P := by
  unfold d_p_addPart at hd
  unfold f_p_addPart at h
  refine xj_E.adv 6 (pc' := 8) (ls' := [(0, .ref 1), (1, .int a), (2, .int b), (3, .int c)]) (st' := [.int a, .ref 8, .int (a * 2)]) (w' := (SH, S, T)) rfl ?_
  refine xj_E.iald rfl rfl hd.1 ?_
  have hd := hd.2
  refine xj_E.adv 6 (pc' := 19) (ls' := [(4, .int ((a * 2) + (S 8 a.toNatClampNeg))), (0, .ref 1), (1, .int a), (2, .int b), (3, .int c)]) (st' := [.int b, .int ((a * 2) + (S 8 a.toNatClampNeg)), .ref 9]) (w' := (SH, S, T)) rfl ?_
  refine xj_E.iast rfl rfl hd.1 ?_
  have hd := hd.2
  refine xj_E.adv 6 (pc' := (if xj_cmp .lt b 100 = true then 36 else 32)) (ls' := [(4, .int ((a * 2) + (S 8 a.toNatClampNeg))), (0, .ref 1), (1, .int a), (2, .int b), (3, .int c)]) (st' := [.int ((a * 2) + (S 8 a.toNatClampNeg)), .ref 10]) (w' := (SH, (xj_set S 9 ((a * 2) + (S 8 a.toNatClampNeg)).toNatClampNeg b), T)) rfl ?_
  refine xj_E.b_lt (fun q => ?_) (fun q => ?_)
  · have hd := hd.1 q
    have h := fun v S9 e => h v S9 (Eq.trans e (if_pos q).symm)
    refine xj_E.adv 1 (pc' := 37) (ls' := [(4, .int ((a * 2) + (S 8 a.toNatClampNeg))), (0, .ref 1), (1, .int a), (2, .int b), (3, .int c)]) (st' := [.int c, .int ((a * 2) + (S 8 a.toNatClampNeg)), .ref 10]) (w' := (SH, (xj_set S 9 ((a * 2) + (S 8 a.toNatClampNeg)).toNatClampNeg b), T)) rfl ?_
    refine xj_E.iast rfl rfl hd.1 ?_
    have hd := hd.2
    refine xj_E.adv 4 (pc' := 44) (ls' := [(4, .int ((a * 2) + (S 8 a.toNatClampNeg))), (0, .ref 1), (1, .int a), (2, .int b), (3, .int c)]) (st' := [.int a, .ref 8, .int a, .ref 8]) (w' := (SH, (xj_set (xj_set S 9 ((a * 2) + (S 8 a.toNatClampNeg)).toNatClampNeg b) 10 ((a * 2) + (S 8 a.toNatClampNeg)).toNatClampNeg c), T)) rfl ?_
    refine xj_E.iald rfl rfl hd.1 ?_
    have hd := hd.2
    refine xj_E.adv 2 (pc' := 47) (ls' := [(4, .int ((a * 2) + (S 8 a.toNatClampNeg))), (0, .ref 1), (1, .int a), (2, .int b), (3, .int c)]) (st' := [.int ((S 8 a.toNatClampNeg) + 1), .int a, .ref 8]) (w' := (SH, (xj_set (xj_set S 9 ((a * 2) + (S 8 a.toNatClampNeg)).toNatClampNeg b) 10 ((a * 2) + (S 8 a.toNatClampNeg)).toNatClampNeg c), T)) rfl ?_
    refine xj_E.iast rfl rfl hd.1 ?_
    have hd := hd.2
    refine xj_E.adv 3 (pc' := 53) (ls' := [(4, .int ((a * 2) + (S 8 a.toNatClampNeg))), (0, .ref 1), (1, .int a), (2, .int b), (3, .int c)]) (st' := [.int a, .ref 8]) (w' := (SH, (xj_set (xj_set (xj_set S 9 ((a * 2) + (S 8 a.toNatClampNeg)).toNatClampNeg b) 10 ((a * 2) + (S 8 a.toNatClampNeg)).toNatClampNeg c) 8 a.toNatClampNeg ((S 8 a.toNatClampNeg) + 1)), T)) rfl ?_
    refine xj_E.iald rfl rfl hd.1 ?_
    have hd := hd.2
    exact xj_E.ret rfl rfl rfl rfl (h _ _ rfl)
  · have hd := hd.2 q
    have h := fun v S9 e => h v S9 (Eq.trans e (if_neg q).symm)
    refine xj_E.adv 2 (pc' := 37) (ls' := [(4, .int ((a * 2) + (S 8 a.toNatClampNeg))), (0, .ref 1), (1, .int a), (2, .int b), (3, .int c)]) (st' := [.int (-1), .int ((a * 2) + (S 8 a.toNatClampNeg)), .ref 10]) (w' := (SH, (xj_set S 9 ((a * 2) + (S 8 a.toNatClampNeg)).toNatClampNeg b), T)) rfl ?_
    refine xj_E.iast rfl rfl hd.1 ?_
    have hd := hd.2
    refine xj_E.adv 4 (pc' := 44) (ls' := [(4, .int ((a * 2) + (S 8 a.toNatClampNeg))), (0, .ref 1), (1, .int a), (2, .int b), (3, .int c)]) (st' := [.int a, .ref 8, .int a, .ref 8]) (w' := (SH, (xj_set (xj_set S 9 ((a * 2) + (S 8 a.toNatClampNeg)).toNatClampNeg b) 10 ((a * 2) + (S 8 a.toNatClampNeg)).toNatClampNeg (-1)), T)) rfl ?_
    refine xj_E.iald rfl rfl hd.1 ?_
    have hd := hd.2
    refine xj_E.adv 2 (pc' := 47) (ls' := [(4, .int ((a * 2) + (S 8 a.toNatClampNeg))), (0, .ref 1), (1, .int a), (2, .int b), (3, .int c)]) (st' := [.int ((S 8 a.toNatClampNeg) + 1), .int a, .ref 8]) (w' := (SH, (xj_set (xj_set S 9 ((a * 2) + (S 8 a.toNatClampNeg)).toNatClampNeg b) 10 ((a * 2) + (S 8 a.toNatClampNeg)).toNatClampNeg (-1)), T)) rfl ?_
    refine xj_E.iast rfl rfl hd.1 ?_
    have hd := hd.2
    refine xj_E.adv 3 (pc' := 53) (ls' := [(4, .int ((a * 2) + (S 8 a.toNatClampNeg))), (0, .ref 1), (1, .int a), (2, .int b), (3, .int c)]) (st' := [.int a, .ref 8]) (w' := (SH, (xj_set (xj_set (xj_set S 9 ((a * 2) + (S 8 a.toNatClampNeg)).toNatClampNeg b) 10 ((a * 2) + (S 8 a.toNatClampNeg)).toNatClampNeg (-1)) 8 a.toNatClampNeg ((S 8 a.toNatClampNeg) + 1)), T)) rfl ?_
    refine xj_E.iald rfl rfl hd.1 ?_
    have hd := hd.2
    exact xj_E.ret rfl rfl rfl rfl (h _ _ rfl)
