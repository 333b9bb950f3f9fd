/-! a method that stores: our machine does so -/
set_option maxHeartbeats 4000000 in
set_option maxRecDepth 100000 in
theorem ok_m_book {L : Nat} {xs : Nat → Int32} {T : Nat → Nat → Int64} {D : Nat} {S : (Nat → Nat → Int32)} {P : (Option Value ⊕ Nat) → xj_W → Nat → Nat → Prop} {a b : Int32} (hD : 0 ≤ D) (hd : d_m_book a b S) (h : ∀ v S9, (v, S9) = f_m_book a b S → P (.inl (some (.int v))) (SH, S9, T) 0 0) : xj_E (xX L xs) D 81 0 [(0, .ref 32), (1, .int a), (2, .int b)] [] (SH, S, T) P := by
  unfold d_m_book at hd
  unfold f_m_book at h
  refine xj_E.adv 5 (pc' := (if xj_cmp .ne (S 32 37) (S 32 16) = true then 18 else 11)) (ls' := [(0, .ref 32), (1, .int a), (2, .int b)]) (st' := []) (w' := (SH, S, T)) rfl ?_
  refine xj_E.b_ne (fun q => ?_) (fun q => ?_)
  · have hd := hd.1 q
    have h := fun v S9 e => h v S9 (Eq.trans e (if_pos q).symm)
    refine xj_E.adv 13 (pc' := 40) (ls' := [(0, .ref 32), (1, .int a), (2, .int b)]) (st' := [.int a, .int ((S 32 24) - (S 32 24) / 48 * 48), .ref 51]) (w' := (SH, (xj_set S 32 37 ((S 32 37) + 1)), T)) rfl ?_
    refine xj_E.iast rfl rfl hd.1 ?_
    have hd := hd.2
    refine xj_E.adv 7 (pc' := 53) (ls' := [(0, .ref 32), (1, .int a), (2, .int b)]) (st' := [.int b, .int ((S 32 24) - (S 32 24) / 48 * 48), .ref 52]) (w' := (SH, (xj_set (xj_set S 32 37 ((S 32 37) + 1)) 51 ((S 32 24) - (S 32 24) / 48 * 48).toNatClampNeg a), T)) rfl ?_
    refine xj_E.iast rfl rfl hd.1 ?_
    have hd := hd.2
    refine xj_E.adv 10 (pc' := 70) (ls' := [(0, .ref 32), (1, .int a), (2, .int b)]) (st' := [.int a, .ref 48, .int a, .ref 48]) (w' := (SH, (xj_set (xj_set (xj_set (xj_set S 32 37 ((S 32 37) + 1)) 51 ((S 32 24) - (S 32 24) / 48 * 48).toNatClampNeg a) 52 ((S 32 24) - (S 32 24) / 48 * 48).toNatClampNeg b) 32 24 ((S 32 24) + 1)), T)) rfl ?_
    refine xj_E.iald rfl rfl hd.1 ?_
    have hd := hd.2
    refine xj_E.adv 2 (pc' := 73) (ls' := [(0, .ref 32), (1, .int a), (2, .int b)]) (st' := [.int ((S 48 a.toNatClampNeg) + 1), .int a, .ref 48]) (w' := (SH, (xj_set (xj_set (xj_set (xj_set S 32 37 ((S 32 37) + 1)) 51 ((S 32 24) - (S 32 24) / 48 * 48).toNatClampNeg a) 52 ((S 32 24) - (S 32 24) / 48 * 48).toNatClampNeg b) 32 24 ((S 32 24) + 1)), T)) rfl ?_
    refine xj_E.iast rfl rfl hd.1 ?_
    have hd := hd.2
    refine xj_E.adv 1 (pc' := 75) (ls' := [(0, .ref 32), (1, .int a), (2, .int b)]) (st' := [.int 1]) (w' := (SH, (xj_set (xj_set (xj_set (xj_set (xj_set S 32 37 ((S 32 37) + 1)) 51 ((S 32 24) - (S 32 24) / 48 * 48).toNatClampNeg a) 52 ((S 32 24) - (S 32 24) / 48 * 48).toNatClampNeg b) 32 24 ((S 32 24) + 1)) 48 a.toNatClampNeg ((S 48 a.toNatClampNeg) + 1)), T)) rfl ?_
    exact xj_E.ret rfl rfl rfl rfl (h _ _ rfl)
  · have hd := hd.2 q
    have h := fun v S9 e => h v S9 (Eq.trans e (if_neg q).symm)
    refine xj_E.adv 4 (pc' := 17) (ls' := [(0, .ref 32), (1, .int a), (2, .int b)]) (st' := [.int 0]) (w' := (SH, (xj_set S 32 38 1), T)) rfl ?_
    exact xj_E.ret rfl rfl rfl rfl (h _ _ rfl)
