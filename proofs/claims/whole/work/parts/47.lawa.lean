/-! the law: one call of the script -/
theorem lw_th (S : Nat → Nat → Int32) : d_m_thrown S := trivial
theorem lw_tr (S : Nat → Nat → Int32) : r_m_thrown S = S 32 0 := rfl
theorem lw_v {L k : Nat} (hL : L ≤ 2560) (j : Nat) (h : k + j < L) : vp_in (nI k + nI j) L := by
  rw [nI_add]
  exact vp_in_nI h (by omega)
theorem lw_cmp (x : Int64) : lg_cmp x x = 0 := by
  unfold lg_cmp
  simp
set_option maxRecDepth 100000 in
theorem la_item {L : Nat} {xs : Nat → Int32} {T : Nat → Nat → Int64} {k : Nat} {S : Nat → Nat → Int32} {P : (Option Value ⊕ Nat) → xj_W → Nat → Nat → Prop} {cd r : Int32} {S2 : Nat → Nat → Int32} (hL : L ≤ 2560) (hk : k + 5 ≤ L) (o3 : d_m_item (xs (nI k + 1).toNatClampNeg) (xs (nI k + 2).toNatClampNeg) (xs (nI k + 3).toNatClampNeg) S) (o4 : f_m_item (xs (nI k + 1).toNatClampNeg) (xs (nI k + 2).toNatClampNeg) (xs (nI k + 3).toNatClampNeg) S = (r, S2)) (hm : S2 32 0 = cd) (hv : cd = 0 → T 64 0 = r.toInt64) (hK : xj_E (xX L xs) 700 0 23 [(0, .ref 1000), (1, .ref 0), (2, .ref 32), (3, .ref 64), (4, .int (nI k + 5))] [] (SH, S2, T) P) : xj_E (xX L xs) 700 0 131 [(0, .ref 1000), (1, .ref 0), (2, .ref 32), (3, .ref 64), (4, .int (nI k))] [.int cd] (SH, S, T) P := by
  refine xj_E.adv 6 (pc' := 139) (ls' := [(5, .int cd), (0, .ref 1000), (1, .ref 0), (2, .ref 32), (3, .ref 64), (4, .int (nI k))]) (st' := [.int (nI k + 1), .ref 1000, .ref 32]) (w' := (SH, S, T)) rfl ?_
  refine xj_E.igiv rfl rfl rfl (lw_v hL 1 (by omega)) ?_
  refine xj_E.adv 4 (pc' := 145) (ls' := [(5, .int cd), (0, .ref 1000), (1, .ref 0), (2, .ref 32), (3, .ref 64), (4, .int (nI k))]) (st' := [.int (nI k + 2), .ref 1000, .int (xs (nI k + 1).toNatClampNeg), .ref 32]) (w' := (SH, S, T)) rfl ?_
  refine xj_E.igiv rfl rfl rfl (lw_v hL 2 (by omega)) ?_
  refine xj_E.adv 4 (pc' := 151) (ls' := [(5, .int cd), (0, .ref 1000), (1, .ref 0), (2, .ref 32), (3, .ref 64), (4, .int (nI k))]) (st' := [.int (nI k + 3), .ref 1000, .int (xs (nI k + 2).toNatClampNeg), .int (xs (nI k + 1).toNatClampNeg), .ref 32]) (w' := (SH, S, T)) rfl ?_
  refine xj_E.igiv rfl rfl rfl (lw_v hL 3 (by omega)) ?_
  refine xj_E.calli (d := 699) (S := SH) rfl rfl rfl rfl rfl (ok_m_item (by omega) o3 ?_)
  intro v1 S1 e
  rw [o4] at e
  obtain ⟨e1, e2⟩ := Prod.mk.inj e
  subst e1
  subst e2
  refine ⟨_, _, _, rfl, rfl, rfl, rfl, ?_⟩
  refine xj_E.adv 2 (pc' := 158) (ls' := [(6, .int v1), (5, .int cd), (0, .ref 1000), (1, .ref 0), (2, .ref 32), (3, .ref 64), (4, .int (nI k))]) (st' := [.ref 32]) (w' := (SH, S1, T)) rfl ?_
  refine xj_E.calli (d := 699) (S := SH) rfl rfl rfl rfl rfl (xj_E.deep (ok_m_thrown (d := 0) (lw_th _) ?_) (by omega))
  intro w1 f1
  have f2 : w1 = cd := (f1.trans (lw_tr _)).trans hm
  refine ⟨_, _, _, rfl, rfl, rfl, rfl, ?_⟩
  refine xj_E.adv 2 (pc' := (if xj_cmp .eq w1 cd = true then 168 else 166)) (ls' := [(6, .int v1), (5, .int cd), (0, .ref 1000), (1, .ref 0), (2, .ref 32), (3, .ref 64), (4, .int (nI k))]) (st' := []) (w' := (SH, S1, T)) rfl ?_
  refine xj_E.b_eq (fun q => ?_) (fun q => absurd f2 q)
  refine xj_E.adv 2 (pc' := (if xj_cmp .ne cd 0 = true then 185 else 173)) (ls' := [(6, .int v1), (5, .int cd), (0, .ref 1000), (1, .ref 0), (2, .ref 32), (3, .ref 64), (4, .int (nI k))]) (st' := []) (w' := (SH, S1, T)) rfl ?_
  refine xj_E.b_ne (fun q => ?_) (fun q => ?_)
  · refine xj_E.adv 1 (pc' := 827) (ls' := [(6, .int v1), (5, .int cd), (0, .ref 1000), (1, .ref 0), (2, .ref 32), (3, .ref 64), (4, .int (nI k))]) (st' := []) (w' := (SH, S1, T)) rfl ?_
    refine xj_E.adv 2 (pc' := 23) (ls' := [(4, .int (nI k + 5)), (6, .int v1), (5, .int cd), (0, .ref 1000), (1, .ref 0), (2, .ref 32), (3, .ref 64)]) (st' := []) (w' := (SH, S1, T)) rfl ?_
    refine xj_E.loc [0, 1, 2, 3, 4] xhth rfl (show xj_E (xX L xs) 700 0 23 [(0, .ref 1000), (1, .ref 0), (2, .ref 32), (3, .ref 64), (4, .int (nI k + 5))] [] (SH, S1, T) P from ?_)
    exact hK
  · have z : cd = 0 := Classical.byContradiction q
    have y : lg_cmp (T 64 0) v1.toInt64 = 0 := by rw [hv z]; exact lw_cmp _
    refine xj_E.adv 7 (pc' := (if xj_cmp .eq (lg_cmp (T 64 0) v1.toInt64) 0 = true then 185 else 183)) (ls' := [(6, .int v1), (5, .int cd), (0, .ref 1000), (1, .ref 0), (2, .ref 32), (3, .ref 64), (4, .int (nI k))]) (st' := []) (w' := (SH, S1, T)) rfl ?_
    refine xj_E.b_eq (fun q => ?_) (fun q => absurd y q)
    refine xj_E.adv 1 (pc' := 827) (ls' := [(6, .int v1), (5, .int cd), (0, .ref 1000), (1, .ref 0), (2, .ref 32), (3, .ref 64), (4, .int (nI k))]) (st' := []) (w' := (SH, S1, T)) rfl ?_
    refine xj_E.adv 2 (pc' := 23) (ls' := [(4, .int (nI k + 5)), (6, .int v1), (5, .int cd), (0, .ref 1000), (1, .ref 0), (2, .ref 32), (3, .ref 64)]) (st' := []) (w' := (SH, S1, T)) rfl ?_
    refine xj_E.loc [0, 1, 2, 3, 4] xhth rfl (show xj_E (xX L xs) 700 0 23 [(0, .ref 1000), (1, .ref 0), (2, .ref 32), (3, .ref 64), (4, .int (nI k + 5))] [] (SH, S1, T) P from ?_)
    exact hK
set_option maxRecDepth 100000 in
theorem la_on {L : Nat} {xs : Nat → Int32} {T : Nat → Nat → Int64} {k : Nat} {S : Nat → Nat → Int32} {P : (Option Value ⊕ Nat) → xj_W → Nat → Nat → Prop} {cd r : Int32} {S2 : Nat → Nat → Int32} (hL : L ≤ 2560) (hk : k + 5 ≤ L) (o3 : d_m_on (xs (nI k + 1).toNatClampNeg) (xs (nI k + 2).toNatClampNeg) (xs (nI k + 3).toNatClampNeg) S) (o4 : f_m_on (xs (nI k + 1).toNatClampNeg) (xs (nI k + 2).toNatClampNeg) (xs (nI k + 3).toNatClampNeg) S = (r, S2)) (hm : S2 32 0 = cd) (hv : cd = 0 → T 64 0 = r.toInt64) (hK : xj_E (xX L xs) 700 0 23 [(0, .ref 1000), (1, .ref 0), (2, .ref 32), (3, .ref 64), (4, .int (nI k + 5))] [] (SH, S2, T) P) : xj_E (xX L xs) 700 0 295 [(0, .ref 1000), (1, .ref 0), (2, .ref 32), (3, .ref 64), (4, .int (nI k))] [.int cd] (SH, S, T) P := by
  refine xj_E.adv 6 (pc' := 303) (ls' := [(5, .int cd), (0, .ref 1000), (1, .ref 0), (2, .ref 32), (3, .ref 64), (4, .int (nI k))]) (st' := [.int (nI k + 1), .ref 1000, .ref 32]) (w' := (SH, S, T)) rfl ?_
  refine xj_E.igiv rfl rfl rfl (lw_v hL 1 (by omega)) ?_
  refine xj_E.adv 4 (pc' := 309) (ls' := [(5, .int cd), (0, .ref 1000), (1, .ref 0), (2, .ref 32), (3, .ref 64), (4, .int (nI k))]) (st' := [.int (nI k + 2), .ref 1000, .int (xs (nI k + 1).toNatClampNeg), .ref 32]) (w' := (SH, S, T)) rfl ?_
  refine xj_E.igiv rfl rfl rfl (lw_v hL 2 (by omega)) ?_
  refine xj_E.adv 4 (pc' := 315) (ls' := [(5, .int cd), (0, .ref 1000), (1, .ref 0), (2, .ref 32), (3, .ref 64), (4, .int (nI k))]) (st' := [.int (nI k + 3), .ref 1000, .int (xs (nI k + 2).toNatClampNeg), .int (xs (nI k + 1).toNatClampNeg), .ref 32]) (w' := (SH, S, T)) rfl ?_
  refine xj_E.igiv rfl rfl rfl (lw_v hL 3 (by omega)) ?_
  refine xj_E.calli (d := 699) (S := SH) rfl rfl rfl rfl rfl (ok_m_on (by omega) o3 ?_)
  intro v1 S1 e
  rw [o4] at e
  obtain ⟨e1, e2⟩ := Prod.mk.inj e
  subst e1
  subst e2
  refine ⟨_, _, _, rfl, rfl, rfl, rfl, ?_⟩
  refine xj_E.adv 2 (pc' := 322) (ls' := [(6, .int v1), (5, .int cd), (0, .ref 1000), (1, .ref 0), (2, .ref 32), (3, .ref 64), (4, .int (nI k))]) (st' := [.ref 32]) (w' := (SH, S1, T)) rfl ?_
  refine xj_E.calli (d := 699) (S := SH) rfl rfl rfl rfl rfl (xj_E.deep (ok_m_thrown (d := 0) (lw_th _) ?_) (by omega))
  intro w1 f1
  have f2 : w1 = cd := (f1.trans (lw_tr _)).trans hm
  refine ⟨_, _, _, rfl, rfl, rfl, rfl, ?_⟩
  refine xj_E.adv 2 (pc' := (if xj_cmp .eq w1 cd = true then 332 else 330)) (ls' := [(6, .int v1), (5, .int cd), (0, .ref 1000), (1, .ref 0), (2, .ref 32), (3, .ref 64), (4, .int (nI k))]) (st' := []) (w' := (SH, S1, T)) rfl ?_
  refine xj_E.b_eq (fun q => ?_) (fun q => absurd f2 q)
  refine xj_E.adv 2 (pc' := (if xj_cmp .ne cd 0 = true then 349 else 337)) (ls' := [(6, .int v1), (5, .int cd), (0, .ref 1000), (1, .ref 0), (2, .ref 32), (3, .ref 64), (4, .int (nI k))]) (st' := []) (w' := (SH, S1, T)) rfl ?_
  refine xj_E.b_ne (fun q => ?_) (fun q => ?_)
  · refine xj_E.adv 1 (pc' := 827) (ls' := [(6, .int v1), (5, .int cd), (0, .ref 1000), (1, .ref 0), (2, .ref 32), (3, .ref 64), (4, .int (nI k))]) (st' := []) (w' := (SH, S1, T)) rfl ?_
    refine xj_E.adv 2 (pc' := 23) (ls' := [(4, .int (nI k + 5)), (6, .int v1), (5, .int cd), (0, .ref 1000), (1, .ref 0), (2, .ref 32), (3, .ref 64)]) (st' := []) (w' := (SH, S1, T)) rfl ?_
    refine xj_E.loc [0, 1, 2, 3, 4] xhth rfl (show xj_E (xX L xs) 700 0 23 [(0, .ref 1000), (1, .ref 0), (2, .ref 32), (3, .ref 64), (4, .int (nI k + 5))] [] (SH, S1, T) P from ?_)
    exact hK
  · have z : cd = 0 := Classical.byContradiction q
    have y : lg_cmp (T 64 0) v1.toInt64 = 0 := by rw [hv z]; exact lw_cmp _
    refine xj_E.adv 7 (pc' := (if xj_cmp .eq (lg_cmp (T 64 0) v1.toInt64) 0 = true then 349 else 347)) (ls' := [(6, .int v1), (5, .int cd), (0, .ref 1000), (1, .ref 0), (2, .ref 32), (3, .ref 64), (4, .int (nI k))]) (st' := []) (w' := (SH, S1, T)) rfl ?_
    refine xj_E.b_eq (fun q => ?_) (fun q => absurd y q)
    refine xj_E.adv 1 (pc' := 827) (ls' := [(6, .int v1), (5, .int cd), (0, .ref 1000), (1, .ref 0), (2, .ref 32), (3, .ref 64), (4, .int (nI k))]) (st' := []) (w' := (SH, S1, T)) rfl ?_
    refine xj_E.adv 2 (pc' := 23) (ls' := [(4, .int (nI k + 5)), (6, .int v1), (5, .int cd), (0, .ref 1000), (1, .ref 0), (2, .ref 32), (3, .ref 64)]) (st' := []) (w' := (SH, S1, T)) rfl ?_
    refine xj_E.loc [0, 1, 2, 3, 4] xhth rfl (show xj_E (xX L xs) 700 0 23 [(0, .ref 1000), (1, .ref 0), (2, .ref 32), (3, .ref 64), (4, .int (nI k + 5))] [] (SH, S1, T) P from ?_)
    exact hK
set_option maxRecDepth 100000 in
theorem la_when {L : Nat} {xs : Nat → Int32} {T : Nat → Nat → Int64} {k : Nat} {S : Nat → Nat → Int32} {P : (Option Value ⊕ Nat) → xj_W → Nat → Nat → Prop} {cd r : Int32} {S2 : Nat → Nat → Int32} (hL : L ≤ 2560) (hk : k + 5 ≤ L) (o3 : d_m_when (xs (nI k + 1).toNatClampNeg) (xs (nI k + 2).toNatClampNeg) (xs (nI k + 3).toNatClampNeg) (xs (nI k + 4).toNatClampNeg) S) (o4 : f_m_when (xs (nI k + 1).toNatClampNeg) (xs (nI k + 2).toNatClampNeg) (xs (nI k + 3).toNatClampNeg) (xs (nI k + 4).toNatClampNeg) S = (r, S2)) (hm : S2 32 0 = cd) (hK : xj_E (xX L xs) 700 0 23 [(0, .ref 1000), (1, .ref 0), (2, .ref 32), (3, .ref 64), (4, .int (nI k + 5))] [] (SH, S2, T) P) : xj_E (xX L xs) 700 0 380 [(0, .ref 1000), (1, .ref 0), (2, .ref 32), (3, .ref 64), (4, .int (nI k))] [.int cd] (SH, S, T) P := by
  refine xj_E.adv 6 (pc' := 388) (ls' := [(5, .int cd), (0, .ref 1000), (1, .ref 0), (2, .ref 32), (3, .ref 64), (4, .int (nI k))]) (st' := [.int (nI k + 1), .ref 1000, .ref 32]) (w' := (SH, S, T)) rfl ?_
  refine xj_E.igiv rfl rfl rfl (lw_v hL 1 (by omega)) ?_
  refine xj_E.adv 4 (pc' := 394) (ls' := [(5, .int cd), (0, .ref 1000), (1, .ref 0), (2, .ref 32), (3, .ref 64), (4, .int (nI k))]) (st' := [.int (nI k + 2), .ref 1000, .int (xs (nI k + 1).toNatClampNeg), .ref 32]) (w' := (SH, S, T)) rfl ?_
  refine xj_E.igiv rfl rfl rfl (lw_v hL 2 (by omega)) ?_
  refine xj_E.adv 4 (pc' := 400) (ls' := [(5, .int cd), (0, .ref 1000), (1, .ref 0), (2, .ref 32), (3, .ref 64), (4, .int (nI k))]) (st' := [.int (nI k + 3), .ref 1000, .int (xs (nI k + 2).toNatClampNeg), .int (xs (nI k + 1).toNatClampNeg), .ref 32]) (w' := (SH, S, T)) rfl ?_
  refine xj_E.igiv rfl rfl rfl (lw_v hL 3 (by omega)) ?_
  refine xj_E.adv 4 (pc' := 406) (ls' := [(5, .int cd), (0, .ref 1000), (1, .ref 0), (2, .ref 32), (3, .ref 64), (4, .int (nI k))]) (st' := [.int (nI k + 4), .ref 1000, .int (xs (nI k + 3).toNatClampNeg), .int (xs (nI k + 2).toNatClampNeg), .int (xs (nI k + 1).toNatClampNeg), .ref 32]) (w' := (SH, S, T)) rfl ?_
  refine xj_E.igiv rfl rfl rfl (lw_v hL 4 (by omega)) ?_
  refine xj_E.callv (d := 699) (S := SH) rfl rfl rfl rfl rfl (ok_m_when (by omega) o3 ?_)
  intro v1 S1 e
  rw [o4] at e
  obtain ⟨e1, e2⟩ := Prod.mk.inj e
  subst e1
  subst e2
  refine ⟨_, _, rfl, rfl, rfl, rfl, ?_⟩
  refine xj_E.adv 1 (pc' := 411) (ls' := [(5, .int cd), (0, .ref 1000), (1, .ref 0), (2, .ref 32), (3, .ref 64), (4, .int (nI k))]) (st' := [.ref 32]) (w' := (SH, S1, T)) rfl ?_
  refine xj_E.calli (d := 699) (S := SH) rfl rfl rfl rfl rfl (xj_E.deep (ok_m_thrown (d := 0) (lw_th _) ?_) (by omega))
  intro w1 f1
  have f2 : w1 = cd := (f1.trans (lw_tr _)).trans hm
  refine ⟨_, _, _, rfl, rfl, rfl, rfl, ?_⟩
  refine xj_E.adv 2 (pc' := (if xj_cmp .eq w1 cd = true then 421 else 419)) (ls' := [(5, .int cd), (0, .ref 1000), (1, .ref 0), (2, .ref 32), (3, .ref 64), (4, .int (nI k))]) (st' := []) (w' := (SH, S1, T)) rfl ?_
  refine xj_E.b_eq (fun q => ?_) (fun q => absurd f2 q)
  refine xj_E.adv 1 (pc' := 827) (ls' := [(5, .int cd), (0, .ref 1000), (1, .ref 0), (2, .ref 32), (3, .ref 64), (4, .int (nI k))]) (st' := []) (w' := (SH, S1, T)) rfl ?_
  refine xj_E.adv 2 (pc' := 23) (ls' := [(4, .int (nI k + 5)), (5, .int cd), (0, .ref 1000), (1, .ref 0), (2, .ref 32), (3, .ref 64)]) (st' := []) (w' := (SH, S1, T)) rfl ?_
  refine xj_E.loc [0, 1, 2, 3, 4] xhth rfl (show xj_E (xX L xs) 700 0 23 [(0, .ref 1000), (1, .ref 0), (2, .ref 32), (3, .ref 64), (4, .int (nI k + 5))] [] (SH, S1, T) P from ?_)
  exact hK
set_option maxRecDepth 100000 in
theorem la_begin {L : Nat} {xs : Nat → Int32} {T : Nat → Nat → Int64} {k : Nat} {S : Nat → Nat → Int32} {P : (Option Value ⊕ Nat) → xj_W → Nat → Nat → Prop} {cd r : Int32} {S2 : Nat → Nat → Int32} (hL : L ≤ 2560) (hk : k + 5 ≤ L) (o3 : d_m_begin (xs (nI k + 1).toNatClampNeg) S) (o4 : f_m_begin (xs (nI k + 1).toNatClampNeg) S = (r, S2)) (hm : S2 32 0 = cd) (hv : cd = 0 → T 64 0 = r.toInt64) (hK : xj_E (xX L xs) 700 0 23 [(0, .ref 1000), (1, .ref 0), (2, .ref 32), (3, .ref 64), (4, .int (nI k + 5))] [] (SH, S2, T) P) : xj_E (xX L xs) 700 0 435 [(0, .ref 1000), (1, .ref 0), (2, .ref 32), (3, .ref 64), (4, .int (nI k))] [.int cd] (SH, S, T) P := by
  refine xj_E.adv 6 (pc' := 443) (ls' := [(5, .int cd), (0, .ref 1000), (1, .ref 0), (2, .ref 32), (3, .ref 64), (4, .int (nI k))]) (st' := [.int (nI k + 1), .ref 1000, .ref 32]) (w' := (SH, S, T)) rfl ?_
  refine xj_E.igiv rfl rfl rfl (lw_v hL 1 (by omega)) ?_
  refine xj_E.calli (d := 699) (S := SH) rfl rfl rfl rfl rfl (ok_m_begin (by omega) o3 ?_)
  intro v1 S1 e
  rw [o4] at e
  obtain ⟨e1, e2⟩ := Prod.mk.inj e
  subst e1
  subst e2
  refine ⟨_, _, _, rfl, rfl, rfl, rfl, ?_⟩
  refine xj_E.adv 2 (pc' := 450) (ls' := [(6, .int v1), (5, .int cd), (0, .ref 1000), (1, .ref 0), (2, .ref 32), (3, .ref 64), (4, .int (nI k))]) (st' := [.ref 32]) (w' := (SH, S1, T)) rfl ?_
  refine xj_E.calli (d := 699) (S := SH) rfl rfl rfl rfl rfl (xj_E.deep (ok_m_thrown (d := 0) (lw_th _) ?_) (by omega))
  intro w1 f1
  have f2 : w1 = cd := (f1.trans (lw_tr _)).trans hm
  refine ⟨_, _, _, rfl, rfl, rfl, rfl, ?_⟩
  refine xj_E.adv 2 (pc' := (if xj_cmp .eq w1 cd = true then 460 else 458)) (ls' := [(6, .int v1), (5, .int cd), (0, .ref 1000), (1, .ref 0), (2, .ref 32), (3, .ref 64), (4, .int (nI k))]) (st' := []) (w' := (SH, S1, T)) rfl ?_
  refine xj_E.b_eq (fun q => ?_) (fun q => absurd f2 q)
  refine xj_E.adv 2 (pc' := (if xj_cmp .ne cd 0 = true then 477 else 465)) (ls' := [(6, .int v1), (5, .int cd), (0, .ref 1000), (1, .ref 0), (2, .ref 32), (3, .ref 64), (4, .int (nI k))]) (st' := []) (w' := (SH, S1, T)) rfl ?_
  refine xj_E.b_ne (fun q => ?_) (fun q => ?_)
  · refine xj_E.adv 1 (pc' := 827) (ls' := [(6, .int v1), (5, .int cd), (0, .ref 1000), (1, .ref 0), (2, .ref 32), (3, .ref 64), (4, .int (nI k))]) (st' := []) (w' := (SH, S1, T)) rfl ?_
    refine xj_E.adv 2 (pc' := 23) (ls' := [(4, .int (nI k + 5)), (6, .int v1), (5, .int cd), (0, .ref 1000), (1, .ref 0), (2, .ref 32), (3, .ref 64)]) (st' := []) (w' := (SH, S1, T)) rfl ?_
    refine xj_E.loc [0, 1, 2, 3, 4] xhth rfl (show xj_E (xX L xs) 700 0 23 [(0, .ref 1000), (1, .ref 0), (2, .ref 32), (3, .ref 64), (4, .int (nI k + 5))] [] (SH, S1, T) P from ?_)
    exact hK
  · have z : cd = 0 := Classical.byContradiction q
    have y : lg_cmp (T 64 0) v1.toInt64 = 0 := by rw [hv z]; exact lw_cmp _
    refine xj_E.adv 7 (pc' := (if xj_cmp .eq (lg_cmp (T 64 0) v1.toInt64) 0 = true then 477 else 475)) (ls' := [(6, .int v1), (5, .int cd), (0, .ref 1000), (1, .ref 0), (2, .ref 32), (3, .ref 64), (4, .int (nI k))]) (st' := []) (w' := (SH, S1, T)) rfl ?_
    refine xj_E.b_eq (fun q => ?_) (fun q => absurd y q)
    refine xj_E.adv 1 (pc' := 827) (ls' := [(6, .int v1), (5, .int cd), (0, .ref 1000), (1, .ref 0), (2, .ref 32), (3, .ref 64), (4, .int (nI k))]) (st' := []) (w' := (SH, S1, T)) rfl ?_
    refine xj_E.adv 2 (pc' := 23) (ls' := [(4, .int (nI k + 5)), (6, .int v1), (5, .int cd), (0, .ref 1000), (1, .ref 0), (2, .ref 32), (3, .ref 64)]) (st' := []) (w' := (SH, S1, T)) rfl ?_
    refine xj_E.loc [0, 1, 2, 3, 4] xhth rfl (show xj_E (xX L xs) 700 0 23 [(0, .ref 1000), (1, .ref 0), (2, .ref 32), (3, .ref 64), (4, .int (nI k + 5))] [] (SH, S1, T) P from ?_)
    exact hK
set_option maxRecDepth 100000 in
theorem la_move {L : Nat} {xs : Nat → Int32} {T : Nat → Nat → Int64} {k : Nat} {S : Nat → Nat → Int32} {P : (Option Value ⊕ Nat) → xj_W → Nat → Nat → Prop} {cd r : Int32} {S2 : Nat → Nat → Int32} (hL : L ≤ 2560) (hk : k + 5 ≤ L) (o3 : d_m_move (xs (nI k + 1).toNatClampNeg) (xs (nI k + 2).toNatClampNeg) S) (o4 : f_m_move (xs (nI k + 1).toNatClampNeg) (xs (nI k + 2).toNatClampNeg) S = (r, S2)) (hm : S2 32 0 = cd) (hv : cd = 0 → T 64 0 = r.toInt64) (hK : xj_E (xX L xs) 700 0 23 [(0, .ref 1000), (1, .ref 0), (2, .ref 32), (3, .ref 64), (4, .int (nI k + 5))] [] (SH, S2, T) P) : xj_E (xX L xs) 700 0 497 [(0, .ref 1000), (1, .ref 0), (2, .ref 32), (3, .ref 64), (4, .int (nI k))] [.int cd] (SH, S, T) P := by
  refine xj_E.adv 6 (pc' := 505) (ls' := [(5, .int cd), (0, .ref 1000), (1, .ref 0), (2, .ref 32), (3, .ref 64), (4, .int (nI k))]) (st' := [.int (nI k + 1), .ref 1000, .ref 32]) (w' := (SH, S, T)) rfl ?_
  refine xj_E.igiv rfl rfl rfl (lw_v hL 1 (by omega)) ?_
  refine xj_E.adv 4 (pc' := 511) (ls' := [(5, .int cd), (0, .ref 1000), (1, .ref 0), (2, .ref 32), (3, .ref 64), (4, .int (nI k))]) (st' := [.int (nI k + 2), .ref 1000, .int (xs (nI k + 1).toNatClampNeg), .ref 32]) (w' := (SH, S, T)) rfl ?_
  refine xj_E.igiv rfl rfl rfl (lw_v hL 2 (by omega)) ?_
  refine xj_E.calli (d := 699) (S := SH) rfl rfl rfl rfl rfl (ok_m_move (by omega) o3 ?_)
  intro v1 S1 e
  rw [o4] at e
  obtain ⟨e1, e2⟩ := Prod.mk.inj e
  subst e1
  subst e2
  refine ⟨_, _, _, rfl, rfl, rfl, rfl, ?_⟩
  refine xj_E.adv 2 (pc' := 518) (ls' := [(6, .int v1), (5, .int cd), (0, .ref 1000), (1, .ref 0), (2, .ref 32), (3, .ref 64), (4, .int (nI k))]) (st' := [.ref 32]) (w' := (SH, S1, T)) rfl ?_
  refine xj_E.calli (d := 699) (S := SH) rfl rfl rfl rfl rfl (xj_E.deep (ok_m_thrown (d := 0) (lw_th _) ?_) (by omega))
  intro w1 f1
  have f2 : w1 = cd := (f1.trans (lw_tr _)).trans hm
  refine ⟨_, _, _, rfl, rfl, rfl, rfl, ?_⟩
  refine xj_E.adv 2 (pc' := (if xj_cmp .eq w1 cd = true then 528 else 526)) (ls' := [(6, .int v1), (5, .int cd), (0, .ref 1000), (1, .ref 0), (2, .ref 32), (3, .ref 64), (4, .int (nI k))]) (st' := []) (w' := (SH, S1, T)) rfl ?_
  refine xj_E.b_eq (fun q => ?_) (fun q => absurd f2 q)
  refine xj_E.adv 2 (pc' := (if xj_cmp .ne cd 0 = true then 545 else 533)) (ls' := [(6, .int v1), (5, .int cd), (0, .ref 1000), (1, .ref 0), (2, .ref 32), (3, .ref 64), (4, .int (nI k))]) (st' := []) (w' := (SH, S1, T)) rfl ?_
  refine xj_E.b_ne (fun q => ?_) (fun q => ?_)
  · refine xj_E.adv 1 (pc' := 827) (ls' := [(6, .int v1), (5, .int cd), (0, .ref 1000), (1, .ref 0), (2, .ref 32), (3, .ref 64), (4, .int (nI k))]) (st' := []) (w' := (SH, S1, T)) rfl ?_
    refine xj_E.adv 2 (pc' := 23) (ls' := [(4, .int (nI k + 5)), (6, .int v1), (5, .int cd), (0, .ref 1000), (1, .ref 0), (2, .ref 32), (3, .ref 64)]) (st' := []) (w' := (SH, S1, T)) rfl ?_
    refine xj_E.loc [0, 1, 2, 3, 4] xhth rfl (show xj_E (xX L xs) 700 0 23 [(0, .ref 1000), (1, .ref 0), (2, .ref 32), (3, .ref 64), (4, .int (nI k + 5))] [] (SH, S1, T) P from ?_)
    exact hK
  · have z : cd = 0 := Classical.byContradiction q
    have y : lg_cmp (T 64 0) v1.toInt64 = 0 := by rw [hv z]; exact lw_cmp _
    refine xj_E.adv 7 (pc' := (if xj_cmp .eq (lg_cmp (T 64 0) v1.toInt64) 0 = true then 545 else 543)) (ls' := [(6, .int v1), (5, .int cd), (0, .ref 1000), (1, .ref 0), (2, .ref 32), (3, .ref 64), (4, .int (nI k))]) (st' := []) (w' := (SH, S1, T)) rfl ?_
    refine xj_E.b_eq (fun q => ?_) (fun q => absurd y q)
    refine xj_E.adv 1 (pc' := 827) (ls' := [(6, .int v1), (5, .int cd), (0, .ref 1000), (1, .ref 0), (2, .ref 32), (3, .ref 64), (4, .int (nI k))]) (st' := []) (w' := (SH, S1, T)) rfl ?_
    refine xj_E.adv 2 (pc' := 23) (ls' := [(4, .int (nI k + 5)), (6, .int v1), (5, .int cd), (0, .ref 1000), (1, .ref 0), (2, .ref 32), (3, .ref 64)]) (st' := []) (w' := (SH, S1, T)) rfl ?_
    refine xj_E.loc [0, 1, 2, 3, 4] xhth rfl (show xj_E (xX L xs) 700 0 23 [(0, .ref 1000), (1, .ref 0), (2, .ref 32), (3, .ref 64), (4, .int (nI k + 5))] [] (SH, S1, T) P from ?_)
    exact hK
set_option maxRecDepth 100000 in
theorem la_set {L : Nat} {xs : Nat → Int32} {T : Nat → Nat → Int64} {k : Nat} {S : Nat → Nat → Int32} {P : (Option Value ⊕ Nat) → xj_W → Nat → Nat → Prop} {cd r : Int32} {S2 : Nat → Nat → Int32} (hL : L ≤ 2560) (hk : k + 5 ≤ L) (o3 : d_m_set (xs (nI k + 1).toNatClampNeg) (xs (nI k + 2).toNatClampNeg) S) (o4 : f_m_set (xs (nI k + 1).toNatClampNeg) (xs (nI k + 2).toNatClampNeg) S = (r, S2)) (hm : S2 32 0 = cd) (hv : cd = 0 → T 64 0 = r.toInt64) (hK : xj_E (xX L xs) 700 0 23 [(0, .ref 1000), (1, .ref 0), (2, .ref 32), (3, .ref 64), (4, .int (nI k + 5))] [] (SH, S2, T) P) : xj_E (xX L xs) 700 0 565 [(0, .ref 1000), (1, .ref 0), (2, .ref 32), (3, .ref 64), (4, .int (nI k))] [.int cd] (SH, S, T) P := by
  refine xj_E.adv 6 (pc' := 573) (ls' := [(5, .int cd), (0, .ref 1000), (1, .ref 0), (2, .ref 32), (3, .ref 64), (4, .int (nI k))]) (st' := [.int (nI k + 1), .ref 1000, .ref 32]) (w' := (SH, S, T)) rfl ?_
  refine xj_E.igiv rfl rfl rfl (lw_v hL 1 (by omega)) ?_
  refine xj_E.adv 4 (pc' := 579) (ls' := [(5, .int cd), (0, .ref 1000), (1, .ref 0), (2, .ref 32), (3, .ref 64), (4, .int (nI k))]) (st' := [.int (nI k + 2), .ref 1000, .int (xs (nI k + 1).toNatClampNeg), .ref 32]) (w' := (SH, S, T)) rfl ?_
  refine xj_E.igiv rfl rfl rfl (lw_v hL 2 (by omega)) ?_
  refine xj_E.calli (d := 699) (S := SH) rfl rfl rfl rfl rfl (ok_m_set (by omega) o3 ?_)
  intro v1 S1 e
  rw [o4] at e
  obtain ⟨e1, e2⟩ := Prod.mk.inj e
  subst e1
  subst e2
  refine ⟨_, _, _, rfl, rfl, rfl, rfl, ?_⟩
  refine xj_E.adv 2 (pc' := 586) (ls' := [(6, .int v1), (5, .int cd), (0, .ref 1000), (1, .ref 0), (2, .ref 32), (3, .ref 64), (4, .int (nI k))]) (st' := [.ref 32]) (w' := (SH, S1, T)) rfl ?_
  refine xj_E.calli (d := 699) (S := SH) rfl rfl rfl rfl rfl (xj_E.deep (ok_m_thrown (d := 0) (lw_th _) ?_) (by omega))
  intro w1 f1
  have f2 : w1 = cd := (f1.trans (lw_tr _)).trans hm
  refine ⟨_, _, _, rfl, rfl, rfl, rfl, ?_⟩
  refine xj_E.adv 2 (pc' := (if xj_cmp .eq w1 cd = true then 596 else 594)) (ls' := [(6, .int v1), (5, .int cd), (0, .ref 1000), (1, .ref 0), (2, .ref 32), (3, .ref 64), (4, .int (nI k))]) (st' := []) (w' := (SH, S1, T)) rfl ?_
  refine xj_E.b_eq (fun q => ?_) (fun q => absurd f2 q)
  refine xj_E.adv 2 (pc' := (if xj_cmp .ne cd 0 = true then 613 else 601)) (ls' := [(6, .int v1), (5, .int cd), (0, .ref 1000), (1, .ref 0), (2, .ref 32), (3, .ref 64), (4, .int (nI k))]) (st' := []) (w' := (SH, S1, T)) rfl ?_
  refine xj_E.b_ne (fun q => ?_) (fun q => ?_)
  · refine xj_E.adv 1 (pc' := 827) (ls' := [(6, .int v1), (5, .int cd), (0, .ref 1000), (1, .ref 0), (2, .ref 32), (3, .ref 64), (4, .int (nI k))]) (st' := []) (w' := (SH, S1, T)) rfl ?_
    refine xj_E.adv 2 (pc' := 23) (ls' := [(4, .int (nI k + 5)), (6, .int v1), (5, .int cd), (0, .ref 1000), (1, .ref 0), (2, .ref 32), (3, .ref 64)]) (st' := []) (w' := (SH, S1, T)) rfl ?_
    refine xj_E.loc [0, 1, 2, 3, 4] xhth rfl (show xj_E (xX L xs) 700 0 23 [(0, .ref 1000), (1, .ref 0), (2, .ref 32), (3, .ref 64), (4, .int (nI k + 5))] [] (SH, S1, T) P from ?_)
    exact hK
  · have z : cd = 0 := Classical.byContradiction q
    have y : lg_cmp (T 64 0) v1.toInt64 = 0 := by rw [hv z]; exact lw_cmp _
    refine xj_E.adv 7 (pc' := (if xj_cmp .eq (lg_cmp (T 64 0) v1.toInt64) 0 = true then 613 else 611)) (ls' := [(6, .int v1), (5, .int cd), (0, .ref 1000), (1, .ref 0), (2, .ref 32), (3, .ref 64), (4, .int (nI k))]) (st' := []) (w' := (SH, S1, T)) rfl ?_
    refine xj_E.b_eq (fun q => ?_) (fun q => absurd y q)
    refine xj_E.adv 1 (pc' := 827) (ls' := [(6, .int v1), (5, .int cd), (0, .ref 1000), (1, .ref 0), (2, .ref 32), (3, .ref 64), (4, .int (nI k))]) (st' := []) (w' := (SH, S1, T)) rfl ?_
    refine xj_E.adv 2 (pc' := 23) (ls' := [(4, .int (nI k + 5)), (6, .int v1), (5, .int cd), (0, .ref 1000), (1, .ref 0), (2, .ref 32), (3, .ref 64)]) (st' := []) (w' := (SH, S1, T)) rfl ?_
    refine xj_E.loc [0, 1, 2, 3, 4] xhth rfl (show xj_E (xX L xs) 700 0 23 [(0, .ref 1000), (1, .ref 0), (2, .ref 32), (3, .ref 64), (4, .int (nI k + 5))] [] (SH, S1, T) P from ?_)
    exact hK
set_option maxRecDepth 100000 in
theorem la_sentry0 {L : Nat} {xs : Nat → Int32} {T : Nat → Nat → Int64} {k : Nat} {S : Nat → Nat → Int32} {P : (Option Value ⊕ Nat) → xj_W → Nat → Nat → Prop} {cd r : Int32} {S2 : Nat → Nat → Int32} (hL : L ≤ 2560) (hk : k + 5 ≤ L) (q0 : xs (nI k + 2).toNatClampNeg = 0) (o3 : d_m_sentry (xs (nI k + 1).toNatClampNeg) 0 S) (o4 : f_m_sentry (xs (nI k + 1).toNatClampNeg) 0 S = (r, S2)) (hm : S2 32 0 = cd) (hv : cd = 0 → T 64 0 = r.toInt64) (hK : xj_E (xX L xs) 700 0 23 [(0, .ref 1000), (1, .ref 0), (2, .ref 32), (3, .ref 64), (4, .int (nI k + 5))] [] (SH, S2, T) P) : xj_E (xX L xs) 700 0 213 [(0, .ref 1000), (1, .ref 0), (2, .ref 32), (3, .ref 64), (4, .int (nI k))] [.int cd] (SH, S, T) P := by
  refine xj_E.adv 6 (pc' := 221) (ls' := [(5, .int cd), (0, .ref 1000), (1, .ref 0), (2, .ref 32), (3, .ref 64), (4, .int (nI k))]) (st' := [.int (nI k + 1), .ref 1000, .ref 32]) (w' := (SH, S, T)) rfl ?_
  refine xj_E.igiv rfl rfl rfl (lw_v hL 1 (by omega)) ?_
  refine xj_E.adv 4 (pc' := 227) (ls' := [(5, .int cd), (0, .ref 1000), (1, .ref 0), (2, .ref 32), (3, .ref 64), (4, .int (nI k))]) (st' := [.int (nI k + 2), .ref 1000, .int (xs (nI k + 1).toNatClampNeg), .ref 32]) (w' := (SH, S, T)) rfl ?_
  refine xj_E.igiv rfl rfl rfl (lw_v hL 2 (by omega)) ?_
  refine xj_E.adv 1 (pc' := (if xj_cmp .eq (xs (nI k + 2).toNatClampNeg) 0 = true then 235 else 231)) (ls' := [(5, .int cd), (0, .ref 1000), (1, .ref 0), (2, .ref 32), (3, .ref 64), (4, .int (nI k))]) (st' := [.int (xs (nI k + 1).toNatClampNeg), .ref 32]) (w' := (SH, S, T)) rfl ?_
  refine xj_E.b_eq (fun _ => ?_) (fun q => absurd q0 q)
  refine xj_E.adv 1 (pc' := 236) (ls' := [(5, .int cd), (0, .ref 1000), (1, .ref 0), (2, .ref 32), (3, .ref 64), (4, .int (nI k))]) (st' := [.int 0, .int (xs (nI k + 1).toNatClampNeg), .ref 32]) (w' := (SH, S, T)) rfl ?_
  refine xj_E.calli (d := 699) (S := SH) rfl rfl rfl rfl rfl (ok_m_sentry (by omega) o3 ?_)
  intro v1 S1 e
  rw [o4] at e
  obtain ⟨e1, e2⟩ := Prod.mk.inj e
  subst e1
  subst e2
  refine ⟨_, _, _, rfl, rfl, rfl, rfl, ?_⟩
  refine xj_E.adv 2 (pc' := 242) (ls' := [(6, .int v1), (5, .int cd), (0, .ref 1000), (1, .ref 0), (2, .ref 32), (3, .ref 64), (4, .int (nI k))]) (st' := [.ref 32]) (w' := (SH, S1, T)) rfl ?_
  refine xj_E.calli (d := 699) (S := SH) rfl rfl rfl rfl rfl (xj_E.deep (ok_m_thrown (d := 0) (lw_th _) ?_) (by omega))
  intro w1 f1
  have f2 : w1 = cd := (f1.trans (lw_tr _)).trans hm
  refine ⟨_, _, _, rfl, rfl, rfl, rfl, ?_⟩
  refine xj_E.adv 2 (pc' := (if xj_cmp .eq w1 cd = true then 252 else 250)) (ls' := [(6, .int v1), (5, .int cd), (0, .ref 1000), (1, .ref 0), (2, .ref 32), (3, .ref 64), (4, .int (nI k))]) (st' := []) (w' := (SH, S1, T)) rfl ?_
  refine xj_E.b_eq (fun q => ?_) (fun q => absurd f2 q)
  refine xj_E.adv 2 (pc' := (if xj_cmp .ne cd 0 = true then 269 else 257)) (ls' := [(6, .int v1), (5, .int cd), (0, .ref 1000), (1, .ref 0), (2, .ref 32), (3, .ref 64), (4, .int (nI k))]) (st' := []) (w' := (SH, S1, T)) rfl ?_
  refine xj_E.b_ne (fun q => ?_) (fun q => ?_)
  · refine xj_E.adv 1 (pc' := 827) (ls' := [(6, .int v1), (5, .int cd), (0, .ref 1000), (1, .ref 0), (2, .ref 32), (3, .ref 64), (4, .int (nI k))]) (st' := []) (w' := (SH, S1, T)) rfl ?_
    refine xj_E.adv 2 (pc' := 23) (ls' := [(4, .int (nI k + 5)), (6, .int v1), (5, .int cd), (0, .ref 1000), (1, .ref 0), (2, .ref 32), (3, .ref 64)]) (st' := []) (w' := (SH, S1, T)) rfl ?_
    refine xj_E.loc [0, 1, 2, 3, 4] xhth rfl (show xj_E (xX L xs) 700 0 23 [(0, .ref 1000), (1, .ref 0), (2, .ref 32), (3, .ref 64), (4, .int (nI k + 5))] [] (SH, S1, T) P from ?_)
    exact hK
  · have z : cd = 0 := Classical.byContradiction q
    have y : lg_cmp (T 64 0) v1.toInt64 = 0 := by rw [hv z]; exact lw_cmp _
    refine xj_E.adv 7 (pc' := (if xj_cmp .eq (lg_cmp (T 64 0) v1.toInt64) 0 = true then 269 else 267)) (ls' := [(6, .int v1), (5, .int cd), (0, .ref 1000), (1, .ref 0), (2, .ref 32), (3, .ref 64), (4, .int (nI k))]) (st' := []) (w' := (SH, S1, T)) rfl ?_
    refine xj_E.b_eq (fun q => ?_) (fun q => absurd y q)
    refine xj_E.adv 1 (pc' := 827) (ls' := [(6, .int v1), (5, .int cd), (0, .ref 1000), (1, .ref 0), (2, .ref 32), (3, .ref 64), (4, .int (nI k))]) (st' := []) (w' := (SH, S1, T)) rfl ?_
    refine xj_E.adv 2 (pc' := 23) (ls' := [(4, .int (nI k + 5)), (6, .int v1), (5, .int cd), (0, .ref 1000), (1, .ref 0), (2, .ref 32), (3, .ref 64)]) (st' := []) (w' := (SH, S1, T)) rfl ?_
    refine xj_E.loc [0, 1, 2, 3, 4] xhth rfl (show xj_E (xX L xs) 700 0 23 [(0, .ref 1000), (1, .ref 0), (2, .ref 32), (3, .ref 64), (4, .int (nI k + 5))] [] (SH, S1, T) P from ?_)
    exact hK
set_option maxRecDepth 100000 in
theorem la_sentry1 {L : Nat} {xs : Nat → Int32} {T : Nat → Nat → Int64} {k : Nat} {S : Nat → Nat → Int32} {P : (Option Value ⊕ Nat) → xj_W → Nat → Nat → Prop} {cd r : Int32} {S2 : Nat → Nat → Int32} (hL : L ≤ 2560) (hk : k + 5 ≤ L) (q0 : ¬ xs (nI k + 2).toNatClampNeg = 0) (o3 : d_m_sentry (xs (nI k + 1).toNatClampNeg) 1 S) (o4 : f_m_sentry (xs (nI k + 1).toNatClampNeg) 1 S = (r, S2)) (hm : S2 32 0 = cd) (hv : cd = 0 → T 64 0 = r.toInt64) (hK : xj_E (xX L xs) 700 0 23 [(0, .ref 1000), (1, .ref 0), (2, .ref 32), (3, .ref 64), (4, .int (nI k + 5))] [] (SH, S2, T) P) : xj_E (xX L xs) 700 0 213 [(0, .ref 1000), (1, .ref 0), (2, .ref 32), (3, .ref 64), (4, .int (nI k))] [.int cd] (SH, S, T) P := by
  refine xj_E.adv 6 (pc' := 221) (ls' := [(5, .int cd), (0, .ref 1000), (1, .ref 0), (2, .ref 32), (3, .ref 64), (4, .int (nI k))]) (st' := [.int (nI k + 1), .ref 1000, .ref 32]) (w' := (SH, S, T)) rfl ?_
  refine xj_E.igiv rfl rfl rfl (lw_v hL 1 (by omega)) ?_
  refine xj_E.adv 4 (pc' := 227) (ls' := [(5, .int cd), (0, .ref 1000), (1, .ref 0), (2, .ref 32), (3, .ref 64), (4, .int (nI k))]) (st' := [.int (nI k + 2), .ref 1000, .int (xs (nI k + 1).toNatClampNeg), .ref 32]) (w' := (SH, S, T)) rfl ?_
  refine xj_E.igiv rfl rfl rfl (lw_v hL 2 (by omega)) ?_
  refine xj_E.adv 1 (pc' := (if xj_cmp .eq (xs (nI k + 2).toNatClampNeg) 0 = true then 235 else 231)) (ls' := [(5, .int cd), (0, .ref 1000), (1, .ref 0), (2, .ref 32), (3, .ref 64), (4, .int (nI k))]) (st' := [.int (xs (nI k + 1).toNatClampNeg), .ref 32]) (w' := (SH, S, T)) rfl ?_
  refine xj_E.b_eq (fun q => absurd q q0) (fun _ => ?_)
  refine xj_E.adv 2 (pc' := 236) (ls' := [(5, .int cd), (0, .ref 1000), (1, .ref 0), (2, .ref 32), (3, .ref 64), (4, .int (nI k))]) (st' := [.int 1, .int (xs (nI k + 1).toNatClampNeg), .ref 32]) (w' := (SH, S, T)) rfl ?_
  refine xj_E.calli (d := 699) (S := SH) rfl rfl rfl rfl rfl (ok_m_sentry (by omega) o3 ?_)
  intro v1 S1 e
  rw [o4] at e
  obtain ⟨e1, e2⟩ := Prod.mk.inj e
  subst e1
  subst e2
  refine ⟨_, _, _, rfl, rfl, rfl, rfl, ?_⟩
  refine xj_E.adv 2 (pc' := 242) (ls' := [(6, .int v1), (5, .int cd), (0, .ref 1000), (1, .ref 0), (2, .ref 32), (3, .ref 64), (4, .int (nI k))]) (st' := [.ref 32]) (w' := (SH, S1, T)) rfl ?_
  refine xj_E.calli (d := 699) (S := SH) rfl rfl rfl rfl rfl (xj_E.deep (ok_m_thrown (d := 0) (lw_th _) ?_) (by omega))
  intro w1 f1
  have f2 : w1 = cd := (f1.trans (lw_tr _)).trans hm
  refine ⟨_, _, _, rfl, rfl, rfl, rfl, ?_⟩
  refine xj_E.adv 2 (pc' := (if xj_cmp .eq w1 cd = true then 252 else 250)) (ls' := [(6, .int v1), (5, .int cd), (0, .ref 1000), (1, .ref 0), (2, .ref 32), (3, .ref 64), (4, .int (nI k))]) (st' := []) (w' := (SH, S1, T)) rfl ?_
  refine xj_E.b_eq (fun q => ?_) (fun q => absurd f2 q)
  refine xj_E.adv 2 (pc' := (if xj_cmp .ne cd 0 = true then 269 else 257)) (ls' := [(6, .int v1), (5, .int cd), (0, .ref 1000), (1, .ref 0), (2, .ref 32), (3, .ref 64), (4, .int (nI k))]) (st' := []) (w' := (SH, S1, T)) rfl ?_
  refine xj_E.b_ne (fun q => ?_) (fun q => ?_)
  · refine xj_E.adv 1 (pc' := 827) (ls' := [(6, .int v1), (5, .int cd), (0, .ref 1000), (1, .ref 0), (2, .ref 32), (3, .ref 64), (4, .int (nI k))]) (st' := []) (w' := (SH, S1, T)) rfl ?_
    refine xj_E.adv 2 (pc' := 23) (ls' := [(4, .int (nI k + 5)), (6, .int v1), (5, .int cd), (0, .ref 1000), (1, .ref 0), (2, .ref 32), (3, .ref 64)]) (st' := []) (w' := (SH, S1, T)) rfl ?_
    refine xj_E.loc [0, 1, 2, 3, 4] xhth rfl (show xj_E (xX L xs) 700 0 23 [(0, .ref 1000), (1, .ref 0), (2, .ref 32), (3, .ref 64), (4, .int (nI k + 5))] [] (SH, S1, T) P from ?_)
    exact hK
  · have z : cd = 0 := Classical.byContradiction q
    have y : lg_cmp (T 64 0) v1.toInt64 = 0 := by rw [hv z]; exact lw_cmp _
    refine xj_E.adv 7 (pc' := (if xj_cmp .eq (lg_cmp (T 64 0) v1.toInt64) 0 = true then 269 else 267)) (ls' := [(6, .int v1), (5, .int cd), (0, .ref 1000), (1, .ref 0), (2, .ref 32), (3, .ref 64), (4, .int (nI k))]) (st' := []) (w' := (SH, S1, T)) rfl ?_
    refine xj_E.b_eq (fun q => ?_) (fun q => absurd y q)
    refine xj_E.adv 1 (pc' := 827) (ls' := [(6, .int v1), (5, .int cd), (0, .ref 1000), (1, .ref 0), (2, .ref 32), (3, .ref 64), (4, .int (nI k))]) (st' := []) (w' := (SH, S1, T)) rfl ?_
    refine xj_E.adv 2 (pc' := 23) (ls' := [(4, .int (nI k + 5)), (6, .int v1), (5, .int cd), (0, .ref 1000), (1, .ref 0), (2, .ref 32), (3, .ref 64)]) (st' := []) (w' := (SH, S1, T)) rfl ?_
    refine xj_E.loc [0, 1, 2, 3, 4] xhth rfl (show xj_E (xX L xs) 700 0 23 [(0, .ref 1000), (1, .ref 0), (2, .ref 32), (3, .ref 64), (4, .int (nI k + 5))] [] (SH, S1, T) P from ?_)
    exact hK
