/-! the law: the questions -/
set_option maxRecDepth 100000 in
theorem lq_value {L : Nat} {xs : Nat → Int32} {T : Nat → Nat → Int64} {k n : Nat} {S : Nat → Nat → Int32} {t : Int32} (hL : L ≤ 2560) (hk : k + 5 ≤ L) (hA : yA S S t) (ht : t ≤ 900000) (ht0 : 0 ≤ t) (hK : ∀ S2 T2, yA S2 S2 (t + 60) → xj_E (xX L xs) 700 0 23 [(0, .ref 1000), (1, .ref 0), (2, .ref 32), (3, .ref 64), (4, .int (nI k + 5))] [] (SH, S2, T2) (fun o _ c z => o = .inl (some (.int 1)) ∧ c ≤ n ∧ z ≤ 6 * (n))) : xj_E (xX L xs) 700 0 616 [(0, .ref 1000), (1, .ref 0), (2, .ref 32), (3, .ref 64), (4, .int (nI k))] [] (SH, S, T) (fun o _ c z => o = .inl (some (.int 1)) ∧ c ≤ n + 1 ∧ z ≤ 6 * (n + 1)) := by
  obtain ⟨o1, o2, o3⟩ := qy_value (a := xs (nI k + 1).toNatClampNeg) hA
  have o5 : yA (xj_set S 32 0 0) (xj_set S 32 0 0) (t + 60) := yA_q hA (by grind)
  refine xj_E.adv 5 (pc' := 622) (ls' := [(0, .ref 1000), (1, .ref 0), (2, .ref 32), (3, .ref 64), (4, .int (nI k))]) (st' := [.int (nI k + 1), .ref 1000, .ref 0]) (w' := (SH, S, T)) rfl ?_
  refine xj_E.igiv rfl rfl rfl (lw_v hL 1 (by omega)) ?_
  refine xj_E.calli (d := 699) (S := SH) rfl rfl rfl rfl rfl (xj_E.deep (ok_c_value (d := 0) o1 ?_) (by omega))
  intro w1 f1
  refine ⟨_, _, _, rfl, rfl, rfl, rfl, ?_⟩
  refine xj_E.adv 5 (pc' := 632) (ls' := [(0, .ref 1000), (1, .ref 0), (2, .ref 32), (3, .ref 64), (4, .int (nI k))]) (st' := [.int (nI k + 1), .ref 1000, .ref 32, .int w1]) (w' := (SH, S, T)) rfl ?_
  refine xj_E.igiv rfl rfl rfl (lw_v hL 1 (by omega)) ?_
  refine xj_E.calli (d := 699) (S := SH) rfl rfl rfl rfl rfl (ok_m_value (by omega) o2 ?_)
  intro v1 S1 e
  rw [o3] at e
  obtain ⟨e1, e2⟩ := Prod.mk.inj e
  subst e2
  refine ⟨_, _, _, rfl, rfl, rfl, rfl, ?_⟩
  have f2 : w1 = v1 := f1.trans e1.symm
  refine xj_E.adv 1 (pc' := (if xj_cmp .eq w1 v1 = true then 827 else 639)) (ls' := [(0, .ref 1000), (1, .ref 0), (2, .ref 32), (3, .ref 64), (4, .int (nI k))]) (st' := []) (w' := (SH, xj_set S 32 0 0, T)) rfl ?_
  refine xj_E.b_eq (fun _ => ?_) (fun q => absurd f2 q)
  refine xj_E.adv 2 (pc' := 23) (ls' := [(4, .int (nI k + 5)), (0, .ref 1000), (1, .ref 0), (2, .ref 32), (3, .ref 64)]) (st' := []) (w' := (SH, (xj_set S 32 0 0), T)) rfl ?_
  refine xj_E.loc [0, 1, 2, 3, 4] xhth rfl (show xj_E (xX L xs) 700 0 23 [(0, .ref 1000), (1, .ref 0), (2, .ref 32), (3, .ref 64), (4, .int (nI k + 5))] [] (SH, (xj_set S 32 0 0), T) _ from ?_)
  exact (hK _ T o5).mono (fun o w c z h => ⟨h.1, by omega, by omega⟩)
set_option maxRecDepth 100000 in
theorem lq_instances {L : Nat} {xs : Nat → Int32} {T : Nat → Nat → Int64} {k n : Nat} {S : Nat → Nat → Int32} {t : Int32} (hL : L ≤ 2560) (hk : k + 5 ≤ L) (hA : yA S S t) (ht : t ≤ 900000) (ht0 : 0 ≤ t) (hK : ∀ S2 T2, yA S2 S2 (t + 60) → xj_E (xX L xs) 700 0 23 [(0, .ref 1000), (1, .ref 0), (2, .ref 32), (3, .ref 64), (4, .int (nI k + 5))] [] (SH, S2, T2) (fun o _ c z => o = .inl (some (.int 1)) ∧ c ≤ n ∧ z ≤ 6 * (n))) : xj_E (xX L xs) 700 0 641 [(0, .ref 1000), (1, .ref 0), (2, .ref 32), (3, .ref 64), (4, .int (nI k))] [] (SH, S, T) (fun o _ c z => o = .inl (some (.int 1)) ∧ c ≤ n + 1 ∧ z ≤ 6 * (n + 1)) := by
  obtain ⟨o1, o2, o3⟩ := qy_instances  hA
  have o5 : yA (xj_set S 32 0 0) (xj_set S 32 0 0) (t + 60) := yA_q hA (by grind)
  refine xj_E.adv 1 (pc' := 642) (ls' := [(0, .ref 1000), (1, .ref 0), (2, .ref 32), (3, .ref 64), (4, .int (nI k))]) (st' := [.ref 0]) (w' := (SH, S, T)) rfl ?_
  refine xj_E.calli (d := 699) (S := SH) rfl rfl rfl rfl rfl (xj_E.deep (ok_c_instances (d := 0) o1 ?_) (by omega))
  intro w1 f1
  refine ⟨_, _, _, rfl, rfl, rfl, rfl, ?_⟩
  refine xj_E.adv 1 (pc' := 646) (ls' := [(0, .ref 1000), (1, .ref 0), (2, .ref 32), (3, .ref 64), (4, .int (nI k))]) (st' := [.ref 32, .int w1]) (w' := (SH, S, T)) rfl ?_
  refine xj_E.calli (d := 699) (S := SH) rfl rfl rfl rfl rfl (ok_m_instances (by omega) o2 ?_)
  intro v1 S1 e
  rw [o3] at e
  obtain ⟨e1, e2⟩ := Prod.mk.inj e
  subst e2
  refine ⟨_, _, _, rfl, rfl, rfl, rfl, ?_⟩
  have f2 : w1 = v1 := f1.trans e1.symm
  refine xj_E.adv 1 (pc' := (if xj_cmp .eq w1 v1 = true then 827 else 652)) (ls' := [(0, .ref 1000), (1, .ref 0), (2, .ref 32), (3, .ref 64), (4, .int (nI k))]) (st' := []) (w' := (SH, xj_set S 32 0 0, T)) rfl ?_
  refine xj_E.b_eq (fun _ => ?_) (fun q => absurd f2 q)
  refine xj_E.adv 2 (pc' := 23) (ls' := [(4, .int (nI k + 5)), (0, .ref 1000), (1, .ref 0), (2, .ref 32), (3, .ref 64)]) (st' := []) (w' := (SH, (xj_set S 32 0 0), T)) rfl ?_
  refine xj_E.loc [0, 1, 2, 3, 4] xhth rfl (show xj_E (xX L xs) 700 0 23 [(0, .ref 1000), (1, .ref 0), (2, .ref 32), (3, .ref 64), (4, .int (nI k + 5))] [] (SH, (xj_set S 32 0 0), T) _ from ?_)
  exact (hK _ T o5).mono (fun o w c z h => ⟨h.1, by omega, by omega⟩)
set_option maxRecDepth 100000 in
theorem lq_instance {L : Nat} {xs : Nat → Int32} {T : Nat → Nat → Int64} {k n : Nat} {S : Nat → Nat → Int32} {t : Int32} (hL : L ≤ 2560) (hk : k + 5 ≤ L) (hA : yA S S t) (ht : t ≤ 900000) (ht0 : 0 ≤ t) (hK : ∀ S2 T2, yA S2 S2 (t + 60) → xj_E (xX L xs) 700 0 23 [(0, .ref 1000), (1, .ref 0), (2, .ref 32), (3, .ref 64), (4, .int (nI k + 5))] [] (SH, S2, T2) (fun o _ c z => o = .inl (some (.int 1)) ∧ c ≤ n ∧ z ≤ 6 * (n))) : xj_E (xX L xs) 700 0 654 [(0, .ref 1000), (1, .ref 0), (2, .ref 32), (3, .ref 64), (4, .int (nI k))] [] (SH, S, T) (fun o _ c z => o = .inl (some (.int 1)) ∧ c ≤ n + 1 ∧ z ≤ 6 * (n + 1)) := by
  obtain ⟨o1, o2, o3⟩ := qy_instance (a := xs (nI k + 1).toNatClampNeg) (b := xs (nI k + 2).toNatClampNeg) hA
  have o5 : yA (xj_set S 32 0 0) (xj_set S 32 0 0) (t + 60) := yA_q hA (by grind)
  refine xj_E.adv 5 (pc' := 660) (ls' := [(0, .ref 1000), (1, .ref 0), (2, .ref 32), (3, .ref 64), (4, .int (nI k))]) (st' := [.int (nI k + 1), .ref 1000, .ref 0]) (w' := (SH, S, T)) rfl ?_
  refine xj_E.igiv rfl rfl rfl (lw_v hL 1 (by omega)) ?_
  refine xj_E.adv 4 (pc' := 666) (ls' := [(0, .ref 1000), (1, .ref 0), (2, .ref 32), (3, .ref 64), (4, .int (nI k))]) (st' := [.int (nI k + 2), .ref 1000, .int (xs (nI k + 1).toNatClampNeg), .ref 0]) (w' := (SH, S, T)) rfl ?_
  refine xj_E.igiv rfl rfl rfl (lw_v hL 2 (by omega)) ?_
  refine xj_E.calli (d := 699) (S := SH) rfl rfl rfl rfl rfl (xj_E.deep (ok_c_instance (d := 0) o1 ?_) (by omega))
  intro w1 f1
  refine ⟨_, _, _, rfl, rfl, rfl, rfl, ?_⟩
  refine xj_E.adv 5 (pc' := 676) (ls' := [(0, .ref 1000), (1, .ref 0), (2, .ref 32), (3, .ref 64), (4, .int (nI k))]) (st' := [.int (nI k + 1), .ref 1000, .ref 32, .int w1]) (w' := (SH, S, T)) rfl ?_
  refine xj_E.igiv rfl rfl rfl (lw_v hL 1 (by omega)) ?_
  refine xj_E.adv 4 (pc' := 682) (ls' := [(0, .ref 1000), (1, .ref 0), (2, .ref 32), (3, .ref 64), (4, .int (nI k))]) (st' := [.int (nI k + 2), .ref 1000, .int (xs (nI k + 1).toNatClampNeg), .ref 32, .int w1]) (w' := (SH, S, T)) rfl ?_
  refine xj_E.igiv rfl rfl rfl (lw_v hL 2 (by omega)) ?_
  refine xj_E.calli (d := 699) (S := SH) rfl rfl rfl rfl rfl (ok_m_instance (by omega) o2 ?_)
  intro v1 S1 e
  rw [o3] at e
  obtain ⟨e1, e2⟩ := Prod.mk.inj e
  subst e2
  refine ⟨_, _, _, rfl, rfl, rfl, rfl, ?_⟩
  have f2 : w1 = v1 := f1.trans e1.symm
  refine xj_E.adv 1 (pc' := (if xj_cmp .eq w1 v1 = true then 827 else 689)) (ls' := [(0, .ref 1000), (1, .ref 0), (2, .ref 32), (3, .ref 64), (4, .int (nI k))]) (st' := []) (w' := (SH, xj_set S 32 0 0, T)) rfl ?_
  refine xj_E.b_eq (fun _ => ?_) (fun q => absurd f2 q)
  refine xj_E.adv 2 (pc' := 23) (ls' := [(4, .int (nI k + 5)), (0, .ref 1000), (1, .ref 0), (2, .ref 32), (3, .ref 64)]) (st' := []) (w' := (SH, (xj_set S 32 0 0), T)) rfl ?_
  refine xj_E.loc [0, 1, 2, 3, 4] xhth rfl (show xj_E (xX L xs) 700 0 23 [(0, .ref 1000), (1, .ref 0), (2, .ref 32), (3, .ref 64), (4, .int (nI k + 5))] [] (SH, (xj_set S 32 0 0), T) _ from ?_)
  exact (hK _ T o5).mono (fun o w c z h => ⟨h.1, by omega, by omega⟩)
set_option maxRecDepth 100000 in
theorem lq_marked {L : Nat} {xs : Nat → Int32} {T : Nat → Nat → Int64} {k n : Nat} {S : Nat → Nat → Int32} {t : Int32} (hL : L ≤ 2560) (hk : k + 5 ≤ L) (hA : yA S S t) (ht : t ≤ 900000) (ht0 : 0 ≤ t) (hK : ∀ S2 T2, yA S2 S2 (t + 60) → xj_E (xX L xs) 700 0 23 [(0, .ref 1000), (1, .ref 0), (2, .ref 32), (3, .ref 64), (4, .int (nI k + 5))] [] (SH, S2, T2) (fun o _ c z => o = .inl (some (.int 1)) ∧ c ≤ n ∧ z ≤ 6 * (n))) : xj_E (xX L xs) 700 0 691 [(0, .ref 1000), (1, .ref 0), (2, .ref 32), (3, .ref 64), (4, .int (nI k))] [] (SH, S, T) (fun o _ c z => o = .inl (some (.int 1)) ∧ c ≤ n + 1 ∧ z ≤ 6 * (n + 1)) := by
  obtain ⟨o1, o2, o3⟩ := qy_marked (a := xs (nI k + 1).toNatClampNeg) (b := xs (nI k + 2).toNatClampNeg) (c := xs (nI k + 3).toNatClampNeg) hA
  have o5 : yA (xj_set S 32 0 0) (xj_set S 32 0 0) (t + 60) := yA_q hA (by grind)
  refine xj_E.adv 5 (pc' := 697) (ls' := [(0, .ref 1000), (1, .ref 0), (2, .ref 32), (3, .ref 64), (4, .int (nI k))]) (st' := [.int (nI k + 1), .ref 1000, .ref 0]) (w' := (SH, S, T)) rfl ?_
  refine xj_E.igiv rfl rfl rfl (lw_v hL 1 (by omega)) ?_
  refine xj_E.adv 4 (pc' := 703) (ls' := [(0, .ref 1000), (1, .ref 0), (2, .ref 32), (3, .ref 64), (4, .int (nI k))]) (st' := [.int (nI k + 2), .ref 1000, .int (xs (nI k + 1).toNatClampNeg), .ref 0]) (w' := (SH, S, T)) rfl ?_
  refine xj_E.igiv rfl rfl rfl (lw_v hL 2 (by omega)) ?_
  refine xj_E.adv 4 (pc' := 709) (ls' := [(0, .ref 1000), (1, .ref 0), (2, .ref 32), (3, .ref 64), (4, .int (nI k))]) (st' := [.int (nI k + 3), .ref 1000, .int (xs (nI k + 2).toNatClampNeg), .int (xs (nI k + 1).toNatClampNeg), .ref 0]) (w' := (SH, S, T)) rfl ?_
  refine xj_E.igiv rfl rfl rfl (lw_v hL 3 (by omega)) ?_
  refine xj_E.calli (d := 699) (S := SH) rfl rfl rfl rfl rfl (xj_E.deep (ok_c_marked (d := 0) o1 ?_) (by omega))
  intro w1 f1
  refine ⟨_, _, _, rfl, rfl, rfl, rfl, ?_⟩
  refine xj_E.adv 5 (pc' := 719) (ls' := [(0, .ref 1000), (1, .ref 0), (2, .ref 32), (3, .ref 64), (4, .int (nI k))]) (st' := [.int (nI k + 1), .ref 1000, .ref 32, .int w1]) (w' := (SH, S, T)) rfl ?_
  refine xj_E.igiv rfl rfl rfl (lw_v hL 1 (by omega)) ?_
  refine xj_E.adv 4 (pc' := 725) (ls' := [(0, .ref 1000), (1, .ref 0), (2, .ref 32), (3, .ref 64), (4, .int (nI k))]) (st' := [.int (nI k + 2), .ref 1000, .int (xs (nI k + 1).toNatClampNeg), .ref 32, .int w1]) (w' := (SH, S, T)) rfl ?_
  refine xj_E.igiv rfl rfl rfl (lw_v hL 2 (by omega)) ?_
  refine xj_E.adv 4 (pc' := 731) (ls' := [(0, .ref 1000), (1, .ref 0), (2, .ref 32), (3, .ref 64), (4, .int (nI k))]) (st' := [.int (nI k + 3), .ref 1000, .int (xs (nI k + 2).toNatClampNeg), .int (xs (nI k + 1).toNatClampNeg), .ref 32, .int w1]) (w' := (SH, S, T)) rfl ?_
  refine xj_E.igiv rfl rfl rfl (lw_v hL 3 (by omega)) ?_
  refine xj_E.calli (d := 699) (S := SH) rfl rfl rfl rfl rfl (ok_m_marked (by omega) o2 ?_)
  intro v1 S1 e
  rw [o3] at e
  obtain ⟨e1, e2⟩ := Prod.mk.inj e
  subst e2
  refine ⟨_, _, _, rfl, rfl, rfl, rfl, ?_⟩
  have f2 : w1 = v1 := f1.trans e1.symm
  refine xj_E.adv 1 (pc' := (if xj_cmp .eq w1 v1 = true then 827 else 738)) (ls' := [(0, .ref 1000), (1, .ref 0), (2, .ref 32), (3, .ref 64), (4, .int (nI k))]) (st' := []) (w' := (SH, xj_set S 32 0 0, T)) rfl ?_
  refine xj_E.b_eq (fun _ => ?_) (fun q => absurd f2 q)
  refine xj_E.adv 2 (pc' := 23) (ls' := [(4, .int (nI k + 5)), (0, .ref 1000), (1, .ref 0), (2, .ref 32), (3, .ref 64)]) (st' := []) (w' := (SH, (xj_set S 32 0 0), T)) rfl ?_
  refine xj_E.loc [0, 1, 2, 3, 4] xhth rfl (show xj_E (xX L xs) 700 0 23 [(0, .ref 1000), (1, .ref 0), (2, .ref 32), (3, .ref 64), (4, .int (nI k + 5))] [] (SH, (xj_set S 32 0 0), T) _ from ?_)
  exact (hK _ T o5).mono (fun o w c z h => ⟨h.1, by omega, by omega⟩)
set_option maxRecDepth 100000 in
theorem lq_can {L : Nat} {xs : Nat → Int32} {T : Nat → Nat → Int64} {k n : Nat} {S : Nat → Nat → Int32} {t : Int32} (hL : L ≤ 2560) (hk : k + 5 ≤ L) (hA : yA S S t) (ht : t ≤ 900000) (ht0 : 0 ≤ t) (hK : ∀ S2 T2, yA S2 S2 (t + 60) → xj_E (xX L xs) 700 0 23 [(0, .ref 1000), (1, .ref 0), (2, .ref 32), (3, .ref 64), (4, .int (nI k + 5))] [] (SH, S2, T2) (fun o _ c z => o = .inl (some (.int 1)) ∧ c ≤ n ∧ z ≤ 6 * (n))) : xj_E (xX L xs) 700 0 740 [(0, .ref 1000), (1, .ref 0), (2, .ref 32), (3, .ref 64), (4, .int (nI k))] [] (SH, S, T) (fun o _ c z => o = .inl (some (.int 1)) ∧ c ≤ n + 1 ∧ z ≤ 6 * (n + 1)) := by
  obtain ⟨o1, o2, o3⟩ := qy_can (a := xs (nI k + 1).toNatClampNeg) (b := xs (nI k + 2).toNatClampNeg) hA
  have o5 : yA (xj_set S 32 0 0) (xj_set S 32 0 0) (t + 60) := yA_q hA (by grind)
  refine xj_E.adv 5 (pc' := 746) (ls' := [(0, .ref 1000), (1, .ref 0), (2, .ref 32), (3, .ref 64), (4, .int (nI k))]) (st' := [.int (nI k + 1), .ref 1000, .ref 0]) (w' := (SH, S, T)) rfl ?_
  refine xj_E.igiv rfl rfl rfl (lw_v hL 1 (by omega)) ?_
  refine xj_E.adv 4 (pc' := 752) (ls' := [(0, .ref 1000), (1, .ref 0), (2, .ref 32), (3, .ref 64), (4, .int (nI k))]) (st' := [.int (nI k + 2), .ref 1000, .int (xs (nI k + 1).toNatClampNeg), .ref 0]) (w' := (SH, S, T)) rfl ?_
  refine xj_E.igiv rfl rfl rfl (lw_v hL 2 (by omega)) ?_
  refine xj_E.calli (d := 699) (S := SH) rfl rfl rfl rfl rfl (xj_E.deep (ok_c_can (d := 0) o1 ?_) (by omega))
  intro w1 f1
  refine ⟨_, _, _, rfl, rfl, rfl, rfl, ?_⟩
  refine xj_E.adv 5 (pc' := 762) (ls' := [(0, .ref 1000), (1, .ref 0), (2, .ref 32), (3, .ref 64), (4, .int (nI k))]) (st' := [.int (nI k + 1), .ref 1000, .ref 32, .int w1]) (w' := (SH, S, T)) rfl ?_
  refine xj_E.igiv rfl rfl rfl (lw_v hL 1 (by omega)) ?_
  refine xj_E.adv 4 (pc' := 768) (ls' := [(0, .ref 1000), (1, .ref 0), (2, .ref 32), (3, .ref 64), (4, .int (nI k))]) (st' := [.int (nI k + 2), .ref 1000, .int (xs (nI k + 1).toNatClampNeg), .ref 32, .int w1]) (w' := (SH, S, T)) rfl ?_
  refine xj_E.igiv rfl rfl rfl (lw_v hL 2 (by omega)) ?_
  refine xj_E.calli (d := 699) (S := SH) rfl rfl rfl rfl rfl (ok_m_can (by omega) o2 ?_)
  intro v1 S1 e
  rw [o3] at e
  obtain ⟨e1, e2⟩ := Prod.mk.inj e
  subst e2
  refine ⟨_, _, _, rfl, rfl, rfl, rfl, ?_⟩
  have f2 : w1 = v1 := f1.trans e1.symm
  refine xj_E.adv 1 (pc' := (if xj_cmp .eq w1 v1 = true then 827 else 775)) (ls' := [(0, .ref 1000), (1, .ref 0), (2, .ref 32), (3, .ref 64), (4, .int (nI k))]) (st' := []) (w' := (SH, xj_set S 32 0 0, T)) rfl ?_
  refine xj_E.b_eq (fun _ => ?_) (fun q => absurd f2 q)
  refine xj_E.adv 2 (pc' := 23) (ls' := [(4, .int (nI k + 5)), (0, .ref 1000), (1, .ref 0), (2, .ref 32), (3, .ref 64)]) (st' := []) (w' := (SH, (xj_set S 32 0 0), T)) rfl ?_
  refine xj_E.loc [0, 1, 2, 3, 4] xhth rfl (show xj_E (xX L xs) 700 0 23 [(0, .ref 1000), (1, .ref 0), (2, .ref 32), (3, .ref 64), (4, .int (nI k + 5))] [] (SH, (xj_set S 32 0 0), T) _ from ?_)
  exact (hK _ T o5).mono (fun o w c z h => ⟨h.1, by omega, by omega⟩)
set_option maxRecDepth 100000 in
theorem lq_moves {L : Nat} {xs : Nat → Int32} {T : Nat → Nat → Int64} {k n : Nat} {S : Nat → Nat → Int32} {t : Int32} (hL : L ≤ 2560) (hk : k + 5 ≤ L) (hA : yA S S t) (ht : t ≤ 900000) (ht0 : 0 ≤ t) (hK : ∀ S2 T2, yA S2 S2 (t + 60) → xj_E (xX L xs) 700 0 23 [(0, .ref 1000), (1, .ref 0), (2, .ref 32), (3, .ref 64), (4, .int (nI k + 5))] [] (SH, S2, T2) (fun o _ c z => o = .inl (some (.int 1)) ∧ c ≤ n ∧ z ≤ 6 * (n))) : xj_E (xX L xs) 700 0 777 [(0, .ref 1000), (1, .ref 0), (2, .ref 32), (3, .ref 64), (4, .int (nI k))] [] (SH, S, T) (fun o _ c z => o = .inl (some (.int 1)) ∧ c ≤ n + 1 ∧ z ≤ 6 * (n + 1)) := by
  obtain ⟨o1, o2, o3⟩ := qy_moves  hA
  have o5 : yA (xj_set S 32 0 0) (xj_set S 32 0 0) (t + 60) := yA_q hA (by grind)
  refine xj_E.adv 1 (pc' := 778) (ls' := [(0, .ref 1000), (1, .ref 0), (2, .ref 32), (3, .ref 64), (4, .int (nI k))]) (st' := [.ref 0]) (w' := (SH, S, T)) rfl ?_
  refine xj_E.calli (d := 699) (S := SH) rfl rfl rfl rfl rfl (xj_E.deep (ok_c_moves (d := 0) o1 ?_) (by omega))
  intro w1 f1
  refine ⟨_, _, _, rfl, rfl, rfl, rfl, ?_⟩
  refine xj_E.adv 1 (pc' := 782) (ls' := [(0, .ref 1000), (1, .ref 0), (2, .ref 32), (3, .ref 64), (4, .int (nI k))]) (st' := [.ref 32, .int w1]) (w' := (SH, S, T)) rfl ?_
  refine xj_E.calli (d := 699) (S := SH) rfl rfl rfl rfl rfl (ok_m_moves (by omega) o2 ?_)
  intro v1 S1 e
  rw [o3] at e
  obtain ⟨e1, e2⟩ := Prod.mk.inj e
  subst e2
  refine ⟨_, _, _, rfl, rfl, rfl, rfl, ?_⟩
  have f2 : w1 = v1 := f1.trans e1.symm
  refine xj_E.adv 1 (pc' := (if xj_cmp .eq w1 v1 = true then 827 else 788)) (ls' := [(0, .ref 1000), (1, .ref 0), (2, .ref 32), (3, .ref 64), (4, .int (nI k))]) (st' := []) (w' := (SH, xj_set S 32 0 0, T)) rfl ?_
  refine xj_E.b_eq (fun _ => ?_) (fun q => absurd f2 q)
  refine xj_E.adv 2 (pc' := 23) (ls' := [(4, .int (nI k + 5)), (0, .ref 1000), (1, .ref 0), (2, .ref 32), (3, .ref 64)]) (st' := []) (w' := (SH, (xj_set S 32 0 0), T)) rfl ?_
  refine xj_E.loc [0, 1, 2, 3, 4] xhth rfl (show xj_E (xX L xs) 700 0 23 [(0, .ref 1000), (1, .ref 0), (2, .ref 32), (3, .ref 64), (4, .int (nI k + 5))] [] (SH, (xj_set S 32 0 0), T) _ from ?_)
  exact (hK _ T o5).mono (fun o w c z h => ⟨h.1, by omega, by omega⟩)
set_option maxRecDepth 100000 in
theorem lq_history {L : Nat} {xs : Nat → Int32} {T : Nat → Nat → Int64} {k n : Nat} {S : Nat → Nat → Int32} {t : Int32} (hL : L ≤ 2560) (hk : k + 5 ≤ L) (hA : yA S S t) (ht : t ≤ 900000) (ht0 : 0 ≤ t) (hK : ∀ S2 T2, yA S2 S2 (t + 60) → xj_E (xX L xs) 700 0 23 [(0, .ref 1000), (1, .ref 0), (2, .ref 32), (3, .ref 64), (4, .int (nI k + 5))] [] (SH, S2, T2) (fun o _ c z => o = .inl (some (.int 1)) ∧ c ≤ n ∧ z ≤ 6 * (n))) : xj_E (xX L xs) 700 0 790 [(0, .ref 1000), (1, .ref 0), (2, .ref 32), (3, .ref 64), (4, .int (nI k))] [] (SH, S, T) (fun o _ c z => o = .inl (some (.int 1)) ∧ c ≤ n + 1 ∧ z ≤ 6 * (n + 1)) := by
  obtain ⟨o1, o2, o3⟩ := qy_history (a := xs (nI k + 1).toNatClampNeg) (b := xs (nI k + 2).toNatClampNeg) hA ht
  have o5 : yA (xj_set S 32 0 0) (xj_set S 32 0 0) (t + 60) := yA_q hA (by grind)
  refine xj_E.adv 5 (pc' := 796) (ls' := [(0, .ref 1000), (1, .ref 0), (2, .ref 32), (3, .ref 64), (4, .int (nI k))]) (st' := [.int (nI k + 1), .ref 1000, .ref 0]) (w' := (SH, S, T)) rfl ?_
  refine xj_E.igiv rfl rfl rfl (lw_v hL 1 (by omega)) ?_
  refine xj_E.adv 4 (pc' := 802) (ls' := [(0, .ref 1000), (1, .ref 0), (2, .ref 32), (3, .ref 64), (4, .int (nI k))]) (st' := [.int (nI k + 2), .ref 1000, .int (xs (nI k + 1).toNatClampNeg), .ref 0]) (w' := (SH, S, T)) rfl ?_
  refine xj_E.igiv rfl rfl rfl (lw_v hL 2 (by omega)) ?_
  refine xj_E.calli (d := 699) (S := SH) rfl rfl rfl rfl rfl (xj_E.deep (ok_c_history (d := 0) o1 ?_) (by omega))
  intro w1 f1
  refine ⟨_, _, _, rfl, rfl, rfl, rfl, ?_⟩
  refine xj_E.adv 5 (pc' := 812) (ls' := [(0, .ref 1000), (1, .ref 0), (2, .ref 32), (3, .ref 64), (4, .int (nI k))]) (st' := [.int (nI k + 1), .ref 1000, .ref 32, .int w1]) (w' := (SH, S, T)) rfl ?_
  refine xj_E.igiv rfl rfl rfl (lw_v hL 1 (by omega)) ?_
  refine xj_E.adv 4 (pc' := 818) (ls' := [(0, .ref 1000), (1, .ref 0), (2, .ref 32), (3, .ref 64), (4, .int (nI k))]) (st' := [.int (nI k + 2), .ref 1000, .int (xs (nI k + 1).toNatClampNeg), .ref 32, .int w1]) (w' := (SH, S, T)) rfl ?_
  refine xj_E.igiv rfl rfl rfl (lw_v hL 2 (by omega)) ?_
  refine xj_E.calli (d := 699) (S := SH) rfl rfl rfl rfl rfl (ok_m_history (by omega) o2 ?_)
  intro v1 S1 e
  rw [o3] at e
  obtain ⟨e1, e2⟩ := Prod.mk.inj e
  subst e2
  refine ⟨_, _, _, rfl, rfl, rfl, rfl, ?_⟩
  have f2 : w1 = v1 := f1.trans e1.symm
  refine xj_E.adv 1 (pc' := (if xj_cmp .eq w1 v1 = true then 827 else 825)) (ls' := [(0, .ref 1000), (1, .ref 0), (2, .ref 32), (3, .ref 64), (4, .int (nI k))]) (st' := []) (w' := (SH, xj_set S 32 0 0, T)) rfl ?_
  refine xj_E.b_eq (fun _ => ?_) (fun q => absurd f2 q)
  refine xj_E.adv 2 (pc' := 23) (ls' := [(4, .int (nI k + 5)), (0, .ref 1000), (1, .ref 0), (2, .ref 32), (3, .ref 64)]) (st' := []) (w' := (SH, (xj_set S 32 0 0), T)) rfl ?_
  refine xj_E.loc [0, 1, 2, 3, 4] xhth rfl (show xj_E (xX L xs) 700 0 23 [(0, .ref 1000), (1, .ref 0), (2, .ref 32), (3, .ref 64), (4, .int (nI k + 5))] [] (SH, (xj_set S 32 0 0), T) _ from ?_)
  exact (hK _ T o5).mono (fun o w c z h => ⟨h.1, by omega, by omega⟩)
