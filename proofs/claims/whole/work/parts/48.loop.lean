/-! the law: the loop -/
theorem lw_le {L k : Nat} (hL : L ≤ 2560) (hk : k ≤ 5000) (q : ¬ Int32.ofNat L - 5 < nI k) : k + 5 ≤ L := by
  have e := pk_sub_toInt (a := L) (b := 5) (by omega) (by decide)
  have z : ¬ (Int32.ofNat L - 5).toInt < (nI k).toInt := fun h => q (Int32.lt_iff_toInt_lt.2 h)
  have e2 : (Int32.ofNat L - 5).toInt = (L : Int) - 5 := e
  rw [e2, nI_toInt (by omega)] at z
  omega
theorem yA_t {S : Nat → Nat → Int32} {t t2 : Int32} (h : yA S S t) (ht : t ≤ t2) : yA S S t2 := yA_cong h ht (fun _ _ _ _ => rfl) rfl rfl (fun _ => rfl) (fun _ _ _ => rfl) rfl rfl rfl rfl rfl (fun _ => rfl)
set_option maxRecDepth 100000 in
theorem lw_body {L : Nat} {xs : Nat → Int32} {T : Nat → Nat → Int64} {k n : Nat} {S : Nat → Nat → Int32} {t : Int32} (hL : L ≤ 2560) (hk : k + 5 ≤ L) (hA : yA S S t) (ht : t ≤ 900000) (ht0 : 0 ≤ t) (hK : ∀ S2 T2, yA S2 S2 (t + 60) → xj_E (xX L xs) 700 0 23 [(0, .ref 1000), (1, .ref 0), (2, .ref 32), (3, .ref 64), (4, .int (nI k + 5))] [] (SH, S2, T2) (fun o _ c z => o = .inl (some (.int 1)) ∧ c ≤ n ∧ z ≤ 6 * (n))) : xj_E (xX L xs) 700 0 32 [(0, .ref 1000), (1, .ref 0), (2, .ref 32), (3, .ref 64), (4, .int (nI k))] [] (SH, S, T) (fun o _ c z => o = .inl (some (.int 1)) ∧ c ≤ n + 1 ∧ z ≤ 6 * (n + 1)) := by
  refine xj_E.adv 2 (pc' := 35) (ls' := [(0, .ref 1000), (1, .ref 0), (2, .ref 32), (3, .ref 64), (4, .int (nI k))]) (st' := [.int (nI k), .ref 1000]) (w' := (SH, S, T)) rfl ?_
  refine xj_E.igiv rfl rfl rfl (vp_in_nI (by omega) (by omega)) ?_
  refine xj_E.adv 2 (pc' := 39) (ls' := [(0, .ref 1000), (1, .ref 0), (2, .ref 32), (3, .ref 64), (4, .int (nI k))]) (st' := [.int (xs (nI k).toNatClampNeg &&& 15)]) (w' := (SH, S, T)) rfl ?_
  by_cases q0 : xs (nI k).toNatClampNeg &&& 15 = 0
  · refine xj_E.swk q0 ?_
    refine xj_E.adv 1 (pc' := 108) (ls' := [(0, .ref 1000), (1, .ref 0), (2, .ref 32), (3, .ref 64), (4, .int (nI k))]) (st' := []) (w' := (SH, S, T)) rfl ?_
    exact lc_item hL hk hA ht ht0 hK
  by_cases q1 : xs (nI k).toNatClampNeg &&& 15 = 1
  · refine xj_E.swk q1 ?_
    refine xj_E.adv 1 (pc' := 188) (ls' := [(0, .ref 1000), (1, .ref 0), (2, .ref 32), (3, .ref 64), (4, .int (nI k))]) (st' := []) (w' := (SH, S, T)) rfl ?_
    exact lc_sentry hL hk hA ht ht0 hK
  by_cases q2 : xs (nI k).toNatClampNeg &&& 15 = 2
  · refine xj_E.swk q2 ?_
    refine xj_E.adv 1 (pc' := 272) (ls' := [(0, .ref 1000), (1, .ref 0), (2, .ref 32), (3, .ref 64), (4, .int (nI k))]) (st' := []) (w' := (SH, S, T)) rfl ?_
    exact lc_on hL hk hA ht ht0 hK
  by_cases q3 : xs (nI k).toNatClampNeg &&& 15 = 3
  · refine xj_E.swk q3 ?_
    refine xj_E.adv 1 (pc' := 352) (ls' := [(0, .ref 1000), (1, .ref 0), (2, .ref 32), (3, .ref 64), (4, .int (nI k))]) (st' := []) (w' := (SH, S, T)) rfl ?_
    exact lc_when hL hk hA ht ht0 hK
  by_cases q4 : xs (nI k).toNatClampNeg &&& 15 = 4
  · refine xj_E.swk q4 ?_
    refine xj_E.adv 1 (pc' := 424) (ls' := [(0, .ref 1000), (1, .ref 0), (2, .ref 32), (3, .ref 64), (4, .int (nI k))]) (st' := []) (w' := (SH, S, T)) rfl ?_
    exact lc_begin hL hk hA ht ht0 hK
  by_cases q5 : xs (nI k).toNatClampNeg &&& 15 = 5
  · refine xj_E.swk q5 ?_
    refine xj_E.adv 1 (pc' := 480) (ls' := [(0, .ref 1000), (1, .ref 0), (2, .ref 32), (3, .ref 64), (4, .int (nI k))]) (st' := []) (w' := (SH, S, T)) rfl ?_
    exact lc_move hL hk hA ht ht0 hK
  by_cases q6 : xs (nI k).toNatClampNeg &&& 15 = 6
  · refine xj_E.swk q6 ?_
    refine xj_E.adv 1 (pc' := 548) (ls' := [(0, .ref 1000), (1, .ref 0), (2, .ref 32), (3, .ref 64), (4, .int (nI k))]) (st' := []) (w' := (SH, S, T)) rfl ?_
    exact lc_set hL hk hA ht ht0 hK
  by_cases q7 : xs (nI k).toNatClampNeg &&& 15 = 7
  · refine xj_E.swk q7 ?_
    refine xj_E.adv 1 (pc' := 616) (ls' := [(0, .ref 1000), (1, .ref 0), (2, .ref 32), (3, .ref 64), (4, .int (nI k))]) (st' := []) (w' := (SH, S, T)) rfl ?_
    exact lq_value hL hk hA ht ht0 hK
  by_cases q8 : xs (nI k).toNatClampNeg &&& 15 = 8
  · refine xj_E.swk q8 ?_
    refine xj_E.adv 1 (pc' := 641) (ls' := [(0, .ref 1000), (1, .ref 0), (2, .ref 32), (3, .ref 64), (4, .int (nI k))]) (st' := []) (w' := (SH, S, T)) rfl ?_
    exact lq_instances hL hk hA ht ht0 hK
  by_cases q9 : xs (nI k).toNatClampNeg &&& 15 = 9
  · refine xj_E.swk q9 ?_
    refine xj_E.adv 1 (pc' := 654) (ls' := [(0, .ref 1000), (1, .ref 0), (2, .ref 32), (3, .ref 64), (4, .int (nI k))]) (st' := []) (w' := (SH, S, T)) rfl ?_
    exact lq_instance hL hk hA ht ht0 hK
  by_cases q10 : xs (nI k).toNatClampNeg &&& 15 = 10
  · refine xj_E.swk q10 ?_
    refine xj_E.adv 1 (pc' := 691) (ls' := [(0, .ref 1000), (1, .ref 0), (2, .ref 32), (3, .ref 64), (4, .int (nI k))]) (st' := []) (w' := (SH, S, T)) rfl ?_
    exact lq_marked hL hk hA ht ht0 hK
  by_cases q11 : xs (nI k).toNatClampNeg &&& 15 = 11
  · refine xj_E.swk q11 ?_
    refine xj_E.adv 1 (pc' := 740) (ls' := [(0, .ref 1000), (1, .ref 0), (2, .ref 32), (3, .ref 64), (4, .int (nI k))]) (st' := []) (w' := (SH, S, T)) rfl ?_
    exact lq_can hL hk hA ht ht0 hK
  by_cases q12 : xs (nI k).toNatClampNeg &&& 15 = 12
  · refine xj_E.swk q12 ?_
    refine xj_E.adv 1 (pc' := 777) (ls' := [(0, .ref 1000), (1, .ref 0), (2, .ref 32), (3, .ref 64), (4, .int (nI k))]) (st' := []) (w' := (SH, S, T)) rfl ?_
    exact lq_moves hL hk hA ht ht0 hK
  by_cases q13 : xs (nI k).toNatClampNeg &&& 15 = 13
  · refine xj_E.swk q13 ?_
    refine xj_E.adv 1 (pc' := 790) (ls' := [(0, .ref 1000), (1, .ref 0), (2, .ref 32), (3, .ref 64), (4, .int (nI k))]) (st' := []) (w' := (SH, S, T)) rfl ?_
    exact lq_history hL hk hA ht ht0 hK
  refine xj_E.swt rfl (xj_swd (fun z z1 z2 => ?_)) rfl ?_
  · have hz : z = 0 ∨ z = 1 ∨ z = 2 ∨ z = 3 ∨ z = 4 ∨ z = 5 ∨ z = 6 ∨ z = 7 ∨ z = 8 ∨ z = 9 ∨ z = 10 ∨ z = 11 ∨ z = 12 ∨ z = 13 := by omega
    rcases hz with rfl | rfl | rfl | rfl | rfl | rfl | rfl | rfl | rfl | rfl | rfl | rfl | rfl | rfl
    · exact fun e => q0 (e.trans (by decide))
    · exact fun e => q1 (e.trans (by decide))
    · exact fun e => q2 (e.trans (by decide))
    · exact fun e => q3 (e.trans (by decide))
    · exact fun e => q4 (e.trans (by decide))
    · exact fun e => q5 (e.trans (by decide))
    · exact fun e => q6 (e.trans (by decide))
    · exact fun e => q7 (e.trans (by decide))
    · exact fun e => q8 (e.trans (by decide))
    · exact fun e => q9 (e.trans (by decide))
    · exact fun e => q10 (e.trans (by decide))
    · exact fun e => q11 (e.trans (by decide))
    · exact fun e => q12 (e.trans (by decide))
    · exact fun e => q13 (e.trans (by decide))
  refine xj_E.adv 2 (pc' := 23) (ls' := [(4, .int (nI k + 5)), (0, .ref 1000), (1, .ref 0), (2, .ref 32), (3, .ref 64)]) (st' := []) (w' := (SH, S, T)) rfl ?_
  refine xj_E.loc [0, 1, 2, 3, 4] xhth rfl (show xj_E (xX L xs) 700 0 23 [(0, .ref 1000), (1, .ref 0), (2, .ref 32), (3, .ref 64), (4, .int (nI k + 5))] [] (SH, S, T) _ from ?_)
  exact (hK S T (yA_t hA (by grind))).mono (fun o w c z h => ⟨h.1, by omega, by omega⟩)
set_option maxRecDepth 100000 in
theorem lw_loop {L : Nat} {xs : Nat → Int32} (hL : L ≤ 2560) : ∀ (n k j : Nat) (S : Nat → Nat → Int32) (T : Nat → Nat → Int64), yA S S (nI j) → j + 60 * n ≤ 40000 → k ≤ 4000 → L < k + 5 * n + 5 → xj_E (xX L xs) 700 0 23 [(0, .ref 1000), (1, .ref 0), (2, .ref 32), (3, .ref 64), (4, .int (nI k))] [] (SH, S, T) (fun o _ c z => o = .inl (some (.int 1)) ∧ c ≤ n ∧ z ≤ 6 * (n)) := by
  intro n
  induction n with
  | zero =>
    intro k j S T hA hj hk hl
    refine xj_E.adv 6 (pc' := (if xj_cmp .gt (nI k) (Int32.ofNat L - 5) = true then 833 else 32)) (ls' := [(0, .ref 1000), (1, .ref 0), (2, .ref 32), (3, .ref 64), (4, .int (nI k))]) (st' := []) (w' := (SH, S, T)) rfl ?_
    refine xj_E.b_gt (fun q => ?_) (fun q => ?_)
    · refine xj_E.adv 1 (pc' := 834) (ls' := [(0, .ref 1000), (1, .ref 0), (2, .ref 32), (3, .ref 64), (4, .int (nI k))]) (st' := [.int 1]) (w' := (SH, S, T)) rfl ?_
      exact xj_E.ret rfl rfl rfl rfl ⟨rfl, Nat.zero_le _, Nat.zero_le _⟩
    · exact absurd (lw_le hL (by omega) q) (by omega)
  | succ n ih =>
    intro k j S T hA hj hk hl
    refine xj_E.adv 6 (pc' := (if xj_cmp .gt (nI k) (Int32.ofNat L - 5) = true then 833 else 32)) (ls' := [(0, .ref 1000), (1, .ref 0), (2, .ref 32), (3, .ref 64), (4, .int (nI k))]) (st' := []) (w' := (SH, S, T)) rfl ?_
    refine xj_E.b_gt (fun q => ?_) (fun q => ?_)
    · refine xj_E.adv 1 (pc' := 834) (ls' := [(0, .ref 1000), (1, .ref 0), (2, .ref 32), (3, .ref 64), (4, .int (nI k))]) (st' := [.int 1]) (w' := (SH, S, T)) rfl ?_
      exact xj_E.ret rfl rfl rfl rfl ⟨rfl, Nat.zero_le _, Nat.zero_le _⟩
    · have h5 := lw_le hL (by omega) q
      have t1 : nI j ≤ 900000 := show nI j ≤ nI 900000 from nI_le (by omega) (by decide)
      refine lw_body hL h5 hA t1 (nI_pos' (by omega)) (fun S2 T2 h2 => ?_)
      have e1 : nI j + 60 = nI (j + 60) := nI_add j 60
      have e2 : nI k + 5 = nI (k + 5) := nI_add k 5
      rw [e1] at h2
      rw [e2]
      exact ih (k + 5) (j + 60) S2 T2 h2 (by omega) (by omega) (by omega)
