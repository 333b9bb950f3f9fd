/-! the law: the loop -/
seal f_l_copyFrom14 d_l_copyFrom14 f_l_copyFrom23 d_l_copyFrom23 f_l_add d_l_add f_l_note d_l_note f_p_addItem d_p_addItem f_p_addSentry d_p_addSentry f_p_addPart d_p_addPart f_p_putIfPart d_p_putIfPart f_c_openCommand d_c_openCommand f_c_mark d_c_mark f_m_fail d_m_fail f_m_item d_m_item f_m_sentry d_m_sentry f_m_on d_m_on f_m_when d_m_when f_m_book d_m_book f_m_mark d_m_mark f_m_create d_m_create f_m_again d_m_again f_m_keep d_m_keep f_m_putBack d_m_putBack f_m_can d_m_can f_m_markVariable d_m_markVariable f_m_value d_m_value f_m_instances d_m_instances f_m_instance d_m_instance f_m_marked d_m_marked f_m_moves d_m_moves f_m_history d_m_history f_c_markSiblings d_c_markSiblings f_c_markAll d_c_markAll f_m_enter d_m_enter f_m_make d_m_make f_m_letIn d_m_letIn f_m_workOff d_m_workOff f_m_finish d_m_finish f_m_begin d_m_begin f_m_move d_m_move f_m_set d_m_set f_c_create d_c_create f_c_make d_c_make f_c_moveWhatIsIn d_c_moveWhatIsIn f_c_createWhatIsIn d_c_createWhatIsIn f_c_exitChildren d_c_exitChildren f_c_moveChildren d_c_moveChildren f_c_repeat d_c_repeat f_c_letIn d_c_letIn f_c_item d_c_item f_c_sentry d_c_sentry f_c_on d_c_on f_c_when d_c_when f_c_workOff d_c_workOff f_c_begin d_c_begin f_c_move d_c_move f_c_set d_c_set r_f_floorMod d_f_floorMod r_l_hasBegun d_l_hasBegun r_l_has d_l_has r_l_isFinal d_l_isFinal r_l_isWaiting d_l_isWaiting r_p_partBit d_p_partBit r_p_hasItem d_p_hasItem r_p_isStage d_p_isStage r_p_hasFlag d_p_hasFlag r_p_hasEntry d_p_hasEntry r_p_mayHaveSentry d_p_mayHaveSentry r_p_hasSentry d_p_hasSentry r_p_hasAllParts d_p_hasAllParts r_p_partsHearing d_p_partsHearing r_p_ifPartHolds d_p_ifPartHolds r_c_instances d_c_instances r_c_instance d_c_instance r_c_marked d_c_marked r_c_moves d_c_moves r_c_history d_c_history r_c_isVariable d_c_isVariable r_c_isCommandMove d_c_isCommandMove r_c_parentLets d_c_parentLets r_c_isSettled d_c_isSettled r_c_hasWaitingChild d_c_hasWaitingChild r_m_thrown d_m_thrown r_m_within d_m_within r_m_isSentry d_m_isSentry r_m_isFinal d_m_isFinal r_m_kindOf d_m_kindOf r_m_hasFlag d_m_hasFlag r_m_hasEntry d_m_hasEntry r_m_parentActive d_m_parentActive r_m_target d_m_target r_m_follows d_m_follows r_m_satisfied d_m_satisfied r_m_someSatisfied d_m_someSatisfied r_m_settled d_m_settled r_m_done d_m_done r_m_toExit d_m_toExit r_m_toLetIn d_m_toLetIn r_m_toComplete d_m_toComplete r_m_allowed d_m_allowed r_m_refusal d_m_refusal r_p_mayHear d_p_mayHear r_p_isSatisfied d_p_isSatisfied r_c_value d_c_value r_c_stateAndKindFit d_c_stateAndKindFit r_c_hasSatisfied d_c_hasSatisfied r_c_isDone d_c_isDone r_c_mayBeMoved d_c_mayBeMoved r_c_lowestToExit d_c_lowestToExit r_c_lowestToEnter d_c_lowestToEnter r_c_lowestToComplete d_c_lowestToComplete r_c_can d_c_can
theorem lw_le {L k : Nat} (hL : L ≤ 2560) (hk : k ≤ 5000) (q : ¬ Int32.ofNat L - 5 < nI k) : k + 5 ≤ L := by
  have e := pk_sub_toInt (a := L) (b := 5) (by omega) (by decide)
  have z : ¬ (Int32.ofNat L - 5).toInt < (nI k).toInt := fun h => q (Int32.lt_iff_toInt_lt.2 h)
  have e2 : (Int32.ofNat L - 5).toInt = (L : Int) - 5 := e
  rw [e2, nI_toInt (by omega)] at z
  omega
theorem yA_t {S : Nat → Nat → Int32} {t t2 : Int32} (h : yA S S t) (ht : t ≤ t2) : yA S S t2 := yA_cong h ht (fun _ _ _ _ => rfl) rfl rfl (fun _ => rfl) (fun _ _ _ => rfl) rfl rfl rfl rfl rfl (fun _ => rfl)
set_option maxRecDepth 100000 in
theorem lw_body {L : Nat} {xs : Nat → Int32} {T : Nat → Nat → Int64} {k n : Nat} {S : Nat → Nat → Int32} {t : Int32} (hL : L ≤ 2560) (hk : k + 5 ≤ L) (hA : yA S S t) (ht : t ≤ 900000) (ht0 : 0 ≤ t) (hK : ∀ S2 T2, yA S2 S2 (t + 60) → xj_E (xX L xs) 700 0 23 [(0, .ref 1000), (1, .ref 0), (2, .ref 32), (3, .ref 64), (4, .int (nI k + 5))] [] (SH, S2, T2) (fun o _ c z => o = .inl (some (.int 1)) ∧ c ≤ n ∧ z ≤ 6 * (n))) : xj_E (xX L xs) 700 0 32 [(0, .ref 1000), (1, .ref 0), (2, .ref 32), (3, .ref 64), (4, .int (nI k))] [] (SH, S, T) (fun o _ c z => o = .inl (some (.int 1)) ∧ c ≤ n + 1 ∧ z ≤ 6 * (n + 1)) := by
  refine xj_E.adv 2 (pc' := 35) (ls' := [(0, .ref 1000), (1, .ref 0), (2, .ref 32), (3, .ref 64), (4, .int (nI k))]) (st' := [.int (nI k), .ref 1000]) (w' := (SH, S, T)) rfl ?_
  refine xj_E.igiv rfl rfl rfl (vp_in_nI (by omega) (by omega)) ?_
  refine xj_E.adv 2 (pc' := 39) (ls' := [(0, .ref 1000), (1, .ref 0), (2, .ref 32), (3, .ref 64), (4, .int (nI k))]) (st' := [.int (xs (nI k).toNatClampNeg &&& 15)]) (w' := (SH, S, T)) rfl ?_
  by_cases q0 : xs (nI k).toNatClampNeg &&& 15 = 0
  · refine xj_E.swk q0 ?_
    refine xj_E.adv 1 (pc' := 108) (ls' := [(0, .ref 1000), (1, .ref 0), (2, .ref 32), (3, .ref 64), (4, .int (nI k))]) (st' := []) (w' := (SH, S, T)) rfl ?_
    exact lc_item hL hk hA ht ht0 hK
  by_cases q1 : xs (nI k).toNatClampNeg &&& 15 = 1
  · refine xj_E.swk q1 ?_
    refine xj_E.adv 1 (pc' := 188) (ls' := [(0, .ref 1000), (1, .ref 0), (2, .ref 32), (3, .ref 64), (4, .int (nI k))]) (st' := []) (w' := (SH, S, T)) rfl ?_
    exact lc_sentry hL hk hA ht ht0 hK
  by_cases q2 : xs (nI k).toNatClampNeg &&& 15 = 2
  · refine xj_E.swk q2 ?_
    refine xj_E.adv 1 (pc' := 272) (ls' := [(0, .ref 1000), (1, .ref 0), (2, .ref 32), (3, .ref 64), (4, .int (nI k))]) (st' := []) (w' := (SH, S, T)) rfl ?_
    exact lc_on hL hk hA ht ht0 hK
  by_cases q3 : xs (nI k).toNatClampNeg &&& 15 = 3
  · refine xj_E.swk q3 ?_
    refine xj_E.adv 1 (pc' := 352) (ls' := [(0, .ref 1000), (1, .ref 0), (2, .ref 32), (3, .ref 64), (4, .int (nI k))]) (st' := []) (w' := (SH, S, T)) rfl ?_
    exact lc_when hL hk hA ht ht0 hK
  by_cases q4 : xs (nI k).toNatClampNeg &&& 15 = 4
  · refine xj_E.swk q4 ?_
    refine xj_E.adv 1 (pc' := 424) (ls' := [(0, .ref 1000), (1, .ref 0), (2, .ref 32), (3, .ref 64), (4, .int (nI k))]) (st' := []) (w' := (SH, S, T)) rfl ?_
    exact lc_begin hL hk hA ht ht0 hK
  by_cases q5 : xs (nI k).toNatClampNeg &&& 15 = 5
  · refine xj_E.swk q5 ?_
    refine xj_E.adv 1 (pc' := 480) (ls' := [(0, .ref 1000), (1, .ref 0), (2, .ref 32), (3, .ref 64), (4, .int (nI k))]) (st' := []) (w' := (SH, S, T)) rfl ?_
    exact lc_move hL hk hA ht ht0 hK
  by_cases q6 : xs (nI k).toNatClampNeg &&& 15 = 6
  · refine xj_E.swk q6 ?_
    refine xj_E.adv 1 (pc' := 548) (ls' := [(0, .ref 1000), (1, .ref 0), (2, .ref 32), (3, .ref 64), (4, .int (nI k))]) (st' := []) (w' := (SH, S, T)) rfl ?_
    exact lc_set hL hk hA ht ht0 hK
  by_cases q7 : xs (nI k).toNatClampNeg &&& 15 = 7
  · refine xj_E.swk q7 ?_
    refine xj_E.adv 1 (pc' := 616) (ls' := [(0, .ref 1000), (1, .ref 0), (2, .ref 32), (3, .ref 64), (4, .int (nI k))]) (st' := []) (w' := (SH, S, T)) rfl ?_
    exact lq_value hL hk hA ht ht0 hK
  by_cases q8 : xs (nI k).toNatClampNeg &&& 15 = 8
  · refine xj_E.swk q8 ?_
    refine xj_E.adv 1 (pc' := 641) (ls' := [(0, .ref 1000), (1, .ref 0), (2, .ref 32), (3, .ref 64), (4, .int (nI k))]) (st' := []) (w' := (SH, S, T)) rfl ?_
    exact lq_instances hL hk hA ht ht0 hK
  by_cases q9 : xs (nI k).toNatClampNeg &&& 15 = 9
  · refine xj_E.swk q9 ?_
    refine xj_E.adv 1 (pc' := 654) (ls' := [(0, .ref 1000), (1, .ref 0), (2, .ref 32), (3, .ref 64), (4, .int (nI k))]) (st' := []) (w' := (SH, S, T)) rfl ?_
    exact lq_instance hL hk hA ht ht0 hK
  by_cases q10 : xs (nI k).toNatClampNeg &&& 15 = 10
  · refine xj_E.swk q10 ?_
    refine xj_E.adv 1 (pc' := 691) (ls' := [(0, .ref 1000), (1, .ref 0), (2, .ref 32), (3, .ref 64), (4, .int (nI k))]) (st' := []) (w' := (SH, S, T)) rfl ?_
    exact lq_marked hL hk hA ht ht0 hK
  by_cases q11 : xs (nI k).toNatClampNeg &&& 15 = 11
  · refine xj_E.swk q11 ?_
    refine xj_E.adv 1 (pc' := 740) (ls' := [(0, .ref 1000), (1, .ref 0), (2, .ref 32), (3, .ref 64), (4, .int (nI k))]) (st' := []) (w' := (SH, S, T)) rfl ?_
    exact lq_can hL hk hA ht ht0 hK
  by_cases q12 : xs (nI k).toNatClampNeg &&& 15 = 12
  · refine xj_E.swk q12 ?_
    refine xj_E.adv 1 (pc' := 777) (ls' := [(0, .ref 1000), (1, .ref 0), (2, .ref 32), (3, .ref 64), (4, .int (nI k))]) (st' := []) (w' := (SH, S, T)) rfl ?_
    exact lq_moves hL hk hA ht ht0 hK
  by_cases q13 : xs (nI k).toNatClampNeg &&& 15 = 13
  · refine xj_E.swk q13 ?_
    refine xj_E.adv 1 (pc' := 790) (ls' := [(0, .ref 1000), (1, .ref 0), (2, .ref 32), (3, .ref 64), (4, .int (nI k))]) (st' := []) (w' := (SH, S, T)) rfl ?_
    exact lq_history hL hk hA ht ht0 hK
  refine xj_E.swt rfl (xj_swd (fun z z1 z2 => ?_)) rfl ?_
  · have hz : z = 0 ∨ z = 1 ∨ z = 2 ∨ z = 3 ∨ z = 4 ∨ z = 5 ∨ z = 6 ∨ z = 7 ∨ z = 8 ∨ z = 9 ∨ z = 10 ∨ z = 11 ∨ z = 12 ∨ z = 13 := by omega
    rcases hz with rfl | rfl | rfl | rfl | rfl | rfl | rfl | rfl | rfl | rfl | rfl | rfl | rfl | rfl
    · exact fun e => q0 (e.trans (by decide))
    · exact fun e => q1 (e.trans (by decide))
    · exact fun e => q2 (e.trans (by decide))
    · exact fun e => q3 (e.trans (by decide))
    · exact fun e => q4 (e.trans (by decide))
    · exact fun e => q5 (e.trans (by decide))
    · exact fun e => q6 (e.trans (by decide))
    · exact fun e => q7 (e.trans (by decide))
    · exact fun e => q8 (e.trans (by decide))
    · exact fun e => q9 (e.trans (by decide))
    · exact fun e => q10 (e.trans (by decide))
    · exact fun e => q11 (e.trans (by decide))
    · exact fun e => q12 (e.trans (by decide))
    · exact fun e => q13 (e.trans (by decide))
  refine xj_E.adv 2 (pc' := 23) (ls' := [(4, .int (nI k + 5)), (0, .ref 1000), (1, .ref 0), (2, .ref 32), (3, .ref 64)]) (st' := []) (w' := (SH, S, T)) rfl ?_
  refine xj_E.loc [0, 1, 2, 3, 4] xhth rfl (show xj_E (xX L xs) 700 0 23 [(0, .ref 1000), (1, .ref 0), (2, .ref 32), (3, .ref 64), (4, .int (nI k + 5))] [] (SH, S, T) _ from ?_)
  exact (hK S T (yA_t hA (by grind))).mono (fun o w c z h => ⟨h.1, by omega, by omega⟩)
set_option maxRecDepth 100000 in
theorem lw_loop {L : Nat} {xs : Nat → Int32} (hL : L ≤ 2560) : ∀ (n k j : Nat) (S : Nat → Nat → Int32) (T : Nat → Nat → Int64), yA S S (nI j) → j + 60 * n ≤ 40000 → k ≤ 4000 → L < k + 5 * n + 5 → xj_E (xX L xs) 700 0 23 [(0, .ref 1000), (1, .ref 0), (2, .ref 32), (3, .ref 64), (4, .int (nI k))] [] (SH, S, T) (fun o _ c z => o = .inl (some (.int 1)) ∧ c ≤ n ∧ z ≤ 6 * (n)) := by
  intro n
  induction n with
  | zero =>
    intro k j S T hA hj hk hl
    refine xj_E.adv 6 (pc' := (if xj_cmp .gt (nI k) (Int32.ofNat L - 5) = true then 833 else 32)) (ls' := [(0, .ref 1000), (1, .ref 0), (2, .ref 32), (3, .ref 64), (4, .int (nI k))]) (st' := []) (w' := (SH, S, T)) rfl ?_
    refine xj_E.b_gt (fun q => ?_) (fun q => ?_)
    · refine xj_E.adv 1 (pc' := 834) (ls' := [(0, .ref 1000), (1, .ref 0), (2, .ref 32), (3, .ref 64), (4, .int (nI k))]) (st' := [.int 1]) (w' := (SH, S, T)) rfl ?_
      exact xj_E.ret rfl rfl rfl rfl ⟨rfl, Nat.zero_le _, Nat.zero_le _⟩
    · exact absurd (lw_le hL (by omega) q) (by omega)
  | succ n ih =>
    intro k j S T hA hj hk hl
    refine xj_E.adv 6 (pc' := (if xj_cmp .gt (nI k) (Int32.ofNat L - 5) = true then 833 else 32)) (ls' := [(0, .ref 1000), (1, .ref 0), (2, .ref 32), (3, .ref 64), (4, .int (nI k))]) (st' := []) (w' := (SH, S, T)) rfl ?_
    refine xj_E.b_gt (fun q => ?_) (fun q => ?_)
    · refine xj_E.adv 1 (pc' := 834) (ls' := [(0, .ref 1000), (1, .ref 0), (2, .ref 32), (3, .ref 64), (4, .int (nI k))]) (st' := [.int 1]) (w' := (SH, S, T)) rfl ?_
      exact xj_E.ret rfl rfl rfl rfl ⟨rfl, Nat.zero_le _, Nat.zero_le _⟩
    · have h5 := lw_le hL (by omega) q
      have t1 : nI j ≤ 900000 := show nI j ≤ nI 900000 from nI_le (by omega) (by decide)
      refine lw_body hL h5 hA t1 (nI_pos' (by omega)) (fun S2 T2 h2 => ?_)
      have e1 : nI j + 60 = nI (j + 60) := nI_add j 60
      have e2 : nI k + 5 = nI (k + 5) := nI_add k 5
      rw [e1] at h2
      rw [e2]
      exact ih (k + 5) (j + 60) S2 T2 h2 (by omega) (by omega) (by omega)
