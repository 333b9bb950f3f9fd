/-! the law: the class is called, then the model -/
seal f_l_copyFrom14 d_l_copyFrom14 f_l_copyFrom23 d_l_copyFrom23 f_l_add d_l_add f_l_note d_l_note f_p_addItem d_p_addItem f_p_addSentry d_p_addSentry f_p_addPart d_p_addPart f_p_putIfPart d_p_putIfPart f_c_openCommand d_c_openCommand f_c_mark d_c_mark f_m_fail d_m_fail f_m_item d_m_item f_m_sentry d_m_sentry f_m_on d_m_on f_m_when d_m_when f_m_book d_m_book f_m_mark d_m_mark f_m_create d_m_create f_m_again d_m_again f_m_keep d_m_keep f_m_putBack d_m_putBack f_m_can d_m_can f_m_markVariable d_m_markVariable f_m_value d_m_value f_m_instances d_m_instances f_m_instance d_m_instance f_m_marked d_m_marked f_m_moves d_m_moves f_m_history d_m_history f_c_markSiblings d_c_markSiblings f_c_markAll d_c_markAll f_m_enter d_m_enter f_m_make d_m_make f_m_letIn d_m_letIn f_m_workOff d_m_workOff f_m_finish d_m_finish f_m_begin d_m_begin f_m_move d_m_move f_m_set d_m_set f_c_create d_c_create f_c_make d_c_make f_c_moveWhatIsIn d_c_moveWhatIsIn f_c_createWhatIsIn d_c_createWhatIsIn f_c_exitChildren d_c_exitChildren f_c_moveChildren d_c_moveChildren f_c_repeat d_c_repeat f_c_letIn d_c_letIn f_c_item d_c_item f_c_sentry d_c_sentry f_c_on d_c_on f_c_when d_c_when f_c_workOff d_c_workOff f_c_begin d_c_begin f_c_move d_c_move f_c_set d_c_set r_f_floorMod d_f_floorMod r_l_hasBegun d_l_hasBegun r_l_has d_l_has r_l_isFinal d_l_isFinal r_l_isWaiting d_l_isWaiting r_p_partBit d_p_partBit r_p_hasItem d_p_hasItem r_p_isStage d_p_isStage r_p_hasFlag d_p_hasFlag r_p_hasEntry d_p_hasEntry r_p_mayHaveSentry d_p_mayHaveSentry r_p_hasSentry d_p_hasSentry r_p_hasAllParts d_p_hasAllParts r_p_partsHearing d_p_partsHearing r_p_ifPartHolds d_p_ifPartHolds r_c_instances d_c_instances r_c_instance d_c_instance r_c_marked d_c_marked r_c_moves d_c_moves r_c_history d_c_history r_c_isVariable d_c_isVariable r_c_isCommandMove d_c_isCommandMove r_c_parentLets d_c_parentLets r_c_isSettled d_c_isSettled r_c_hasWaitingChild d_c_hasWaitingChild r_m_thrown d_m_thrown r_m_within d_m_within r_m_isSentry d_m_isSentry r_m_isFinal d_m_isFinal r_m_kindOf d_m_kindOf r_m_hasFlag d_m_hasFlag r_m_hasEntry d_m_hasEntry r_m_parentActive d_m_parentActive r_m_target d_m_target r_m_follows d_m_follows r_m_satisfied d_m_satisfied r_m_someSatisfied d_m_someSatisfied r_m_settled d_m_settled r_m_done d_m_done r_m_toExit d_m_toExit r_m_toLetIn d_m_toLetIn r_m_toComplete d_m_toComplete r_m_allowed d_m_allowed r_m_refusal d_m_refusal r_p_mayHear d_p_mayHear r_p_isSatisfied d_p_isSatisfied r_c_value d_c_value r_c_stateAndKindFit d_c_stateAndKindFit r_c_hasSatisfied d_c_hasSatisfied r_c_isDone d_c_isDone r_c_mayBeMoved d_c_mayBeMoved r_c_lowestToExit d_c_lowestToExit r_c_lowestToEnter d_c_lowestToEnter r_c_lowestToComplete d_c_lowestToComplete r_c_can d_c_can
set_option maxRecDepth 100000 in
theorem lc_item {L : Nat} {xs : Nat → Int32} {T : Nat → Nat → Int64} {k n : Nat} {S : Nat → Nat → Int32} {t : Int32} (hL : L ≤ 2560) (hk : k + 5 ≤ L) (hA : yA S S t) (ht : t ≤ 900000) (ht0 : 0 ≤ t) (hK : ∀ S2 T2, yA S2 S2 (t + 60) → xj_E (xX L xs) 700 0 23 [(0, .ref 1000), (1, .ref 0), (2, .ref 32), (3, .ref 64), (4, .int (nI k + 5))] [] (SH, S2, T2) (fun o _ c z => o = .inl (some (.int 1)) ∧ c ≤ n ∧ z ≤ 6 * (n))) : xj_E (xX L xs) 700 0 108 [(0, .ref 1000), (1, .ref 0), (2, .ref 32), (3, .ref 64), (4, .int (nI k))] [] (SH, S, T) (fun o _ c z => o = .inl (some (.int 1)) ∧ c ≤ n + 1 ∧ z ≤ 6 * (n + 1)) := by
  obtain ⟨tag, v, S1, r, S2, o1, o2, o3, o4, o5, o6⟩ := os_item (a := xs (nI k + 1).toNatClampNeg) (b := xs (nI k + 2).toNatClampNeg) (c := xs (nI k + 3).toNatClampNeg) hA ht ht0
  have tg : tag = 0 ∨ tag = 1 ∨ tag = 2 := by
    rcases o6 with h | h | h <;> simp [h.1]
  refine xj_E.adv 5 (pc' := 114) (ls' := [(0, .ref 1000), (1, .ref 0), (2, .ref 32), (3, .ref 64), (4, .int (nI k))]) (st' := [.int (nI k + 1), .ref 1000, .ref 0]) (w' := (SH, S, T)) rfl ?_
  refine xj_E.igiv rfl rfl rfl (lw_v hL 1 (by omega)) ?_
  refine xj_E.adv 4 (pc' := 120) (ls' := [(0, .ref 1000), (1, .ref 0), (2, .ref 32), (3, .ref 64), (4, .int (nI k))]) (st' := [.int (nI k + 2), .ref 1000, .int (xs (nI k + 1).toNatClampNeg), .ref 0]) (w' := (SH, S, T)) rfl ?_
  refine xj_E.igiv rfl rfl rfl (lw_v hL 2 (by omega)) ?_
  refine xj_E.adv 4 (pc' := 126) (ls' := [(0, .ref 1000), (1, .ref 0), (2, .ref 32), (3, .ref 64), (4, .int (nI k))]) (st' := [.int (nI k + 3), .ref 1000, .int (xs (nI k + 2).toNatClampNeg), .int (xs (nI k + 1).toNatClampNeg), .ref 0]) (w' := (SH, S, T)) rfl ?_
  refine xj_E.igiv rfl rfl rfl (lw_v hL 3 (by omega)) ?_
  refine xj_E.adv 1 (pc' := 128) (ls' := [(0, .ref 1000), (1, .ref 0), (2, .ref 32), (3, .ref 64), (4, .int (nI k))]) (st' := [.ref 64, .int (xs (nI k + 3).toNatClampNeg), .int (xs (nI k + 2).toNatClampNeg), .int (xs (nI k + 1).toNatClampNeg), .ref 0]) (w' := (SH, S, T)) rfl ?_
  refine xj_E.call (d := 699) rfl rfl rfl rfl rfl (ok_w_item (D := 698) (by omega) o1 o2 tg ?_ ?_ ?_)
  · intro e
    rcases o6 with h | h | h
    · show xj_E (xX L xs) 700 0 131 [(0, .ref 1000), (1, .ref 0), (2, .ref 32), (3, .ref 64), (4, .int (nI k))] [.int 0] (SH, S1, (xj_setL T 64 0 v.toInt64)) _
      exact la_item hL hk o3 o4 h.2.1 (fun _ => by rw [h.2.2]; rfl) ((hK S2 _ o5).mono (fun o w c z h => ⟨h.1, by omega, by omega⟩))
    · exact absurd (h.1.symm.trans e) (by decide)
    · exact absurd (h.1.symm.trans e) (by decide)
  · intro e
    rcases o6 with h | h | h
    · exact absurd (h.1.symm.trans e) (by decide)
    · show xj_E (xX L xs) 700 0 131 [(0, .ref 1000), (1, .ref 0), (2, .ref 32), (3, .ref 64), (4, .int (nI k))] [.int 1] (SH, S1, T) _
      exact la_item hL hk o3 o4 h.2 (fun z => absurd z (by decide)) ((hK S2 _ o5).mono (fun o w c z h => ⟨h.1, by omega, by omega⟩))
    · exact absurd (h.1.symm.trans e) (by decide)
  · intro e
    rcases o6 with h | h | h
    · exact absurd (h.1.symm.trans e) (by decide)
    · exact absurd (h.1.symm.trans e) (by decide)
    · show xj_E (xX L xs) 700 0 131 [(0, .ref 1000), (1, .ref 0), (2, .ref 32), (3, .ref 64), (4, .int (nI k))] [.int 2] (SH, S1, T) _
      exact la_item hL hk o3 o4 h.2 (fun z => absurd z (by decide)) ((hK S2 _ o5).mono (fun o w c z h => ⟨h.1, by omega, by omega⟩))
set_option maxRecDepth 100000 in
theorem lc_on {L : Nat} {xs : Nat → Int32} {T : Nat → Nat → Int64} {k n : Nat} {S : Nat → Nat → Int32} {t : Int32} (hL : L ≤ 2560) (hk : k + 5 ≤ L) (hA : yA S S t) (ht : t ≤ 900000) (ht0 : 0 ≤ t) (hK : ∀ S2 T2, yA S2 S2 (t + 60) → xj_E (xX L xs) 700 0 23 [(0, .ref 1000), (1, .ref 0), (2, .ref 32), (3, .ref 64), (4, .int (nI k + 5))] [] (SH, S2, T2) (fun o _ c z => o = .inl (some (.int 1)) ∧ c ≤ n ∧ z ≤ 6 * (n))) : xj_E (xX L xs) 700 0 272 [(0, .ref 1000), (1, .ref 0), (2, .ref 32), (3, .ref 64), (4, .int (nI k))] [] (SH, S, T) (fun o _ c z => o = .inl (some (.int 1)) ∧ c ≤ n + 1 ∧ z ≤ 6 * (n + 1)) := by
  obtain ⟨tag, v, S1, r, S2, o1, o2, o3, o4, o5, o6⟩ := os_on (a := xs (nI k + 1).toNatClampNeg) (b := xs (nI k + 2).toNatClampNeg) (c := xs (nI k + 3).toNatClampNeg) hA ht ht0
  have tg : tag = 0 ∨ tag = 1 ∨ tag = 2 := by
    rcases o6 with h | h | h <;> simp [h.1]
  refine xj_E.adv 5 (pc' := 278) (ls' := [(0, .ref 1000), (1, .ref 0), (2, .ref 32), (3, .ref 64), (4, .int (nI k))]) (st' := [.int (nI k + 1), .ref 1000, .ref 0]) (w' := (SH, S, T)) rfl ?_
  refine xj_E.igiv rfl rfl rfl (lw_v hL 1 (by omega)) ?_
  refine xj_E.adv 4 (pc' := 284) (ls' := [(0, .ref 1000), (1, .ref 0), (2, .ref 32), (3, .ref 64), (4, .int (nI k))]) (st' := [.int (nI k + 2), .ref 1000, .int (xs (nI k + 1).toNatClampNeg), .ref 0]) (w' := (SH, S, T)) rfl ?_
  refine xj_E.igiv rfl rfl rfl (lw_v hL 2 (by omega)) ?_
  refine xj_E.adv 4 (pc' := 290) (ls' := [(0, .ref 1000), (1, .ref 0), (2, .ref 32), (3, .ref 64), (4, .int (nI k))]) (st' := [.int (nI k + 3), .ref 1000, .int (xs (nI k + 2).toNatClampNeg), .int (xs (nI k + 1).toNatClampNeg), .ref 0]) (w' := (SH, S, T)) rfl ?_
  refine xj_E.igiv rfl rfl rfl (lw_v hL 3 (by omega)) ?_
  refine xj_E.adv 1 (pc' := 292) (ls' := [(0, .ref 1000), (1, .ref 0), (2, .ref 32), (3, .ref 64), (4, .int (nI k))]) (st' := [.ref 64, .int (xs (nI k + 3).toNatClampNeg), .int (xs (nI k + 2).toNatClampNeg), .int (xs (nI k + 1).toNatClampNeg), .ref 0]) (w' := (SH, S, T)) rfl ?_
  refine xj_E.call (d := 699) rfl rfl rfl rfl rfl (ok_w_on (D := 698) (by omega) o1 o2 tg ?_ ?_ ?_)
  · intro e
    rcases o6 with h | h | h
    · show xj_E (xX L xs) 700 0 295 [(0, .ref 1000), (1, .ref 0), (2, .ref 32), (3, .ref 64), (4, .int (nI k))] [.int 0] (SH, S1, (xj_setL T 64 0 v.toInt64)) _
      exact la_on hL hk o3 o4 h.2.1 (fun _ => by rw [h.2.2]; rfl) ((hK S2 _ o5).mono (fun o w c z h => ⟨h.1, by omega, by omega⟩))
    · exact absurd (h.1.symm.trans e) (by decide)
    · exact absurd (h.1.symm.trans e) (by decide)
  · intro e
    rcases o6 with h | h | h
    · exact absurd (h.1.symm.trans e) (by decide)
    · show xj_E (xX L xs) 700 0 295 [(0, .ref 1000), (1, .ref 0), (2, .ref 32), (3, .ref 64), (4, .int (nI k))] [.int 1] (SH, S1, T) _
      exact la_on hL hk o3 o4 h.2 (fun z => absurd z (by decide)) ((hK S2 _ o5).mono (fun o w c z h => ⟨h.1, by omega, by omega⟩))
    · exact absurd (h.1.symm.trans e) (by decide)
  · intro e
    rcases o6 with h | h | h
    · exact absurd (h.1.symm.trans e) (by decide)
    · exact absurd (h.1.symm.trans e) (by decide)
    · show xj_E (xX L xs) 700 0 295 [(0, .ref 1000), (1, .ref 0), (2, .ref 32), (3, .ref 64), (4, .int (nI k))] [.int 2] (SH, S1, T) _
      exact la_on hL hk o3 o4 h.2 (fun z => absurd z (by decide)) ((hK S2 _ o5).mono (fun o w c z h => ⟨h.1, by omega, by omega⟩))
set_option maxRecDepth 100000 in
theorem lc_when {L : Nat} {xs : Nat → Int32} {T : Nat → Nat → Int64} {k n : Nat} {S : Nat → Nat → Int32} {t : Int32} (hL : L ≤ 2560) (hk : k + 5 ≤ L) (hA : yA S S t) (ht : t ≤ 900000) (ht0 : 0 ≤ t) (hK : ∀ S2 T2, yA S2 S2 (t + 60) → xj_E (xX L xs) 700 0 23 [(0, .ref 1000), (1, .ref 0), (2, .ref 32), (3, .ref 64), (4, .int (nI k + 5))] [] (SH, S2, T2) (fun o _ c z => o = .inl (some (.int 1)) ∧ c ≤ n ∧ z ≤ 6 * (n))) : xj_E (xX L xs) 700 0 352 [(0, .ref 1000), (1, .ref 0), (2, .ref 32), (3, .ref 64), (4, .int (nI k))] [] (SH, S, T) (fun o _ c z => o = .inl (some (.int 1)) ∧ c ≤ n + 1 ∧ z ≤ 6 * (n + 1)) := by
  obtain ⟨tag, v, S1, r, S2, o1, o2, o3, o4, o5, o6⟩ := os_when (a := xs (nI k + 1).toNatClampNeg) (b := xs (nI k + 2).toNatClampNeg) (c := xs (nI k + 3).toNatClampNeg) (d := xs (nI k + 4).toNatClampNeg) hA ht ht0
  have tg : tag = 0 ∨ tag = 1 ∨ tag = 2 := by
    rcases o6 with h | h | h <;> simp [h.1]
  refine xj_E.adv 5 (pc' := 358) (ls' := [(0, .ref 1000), (1, .ref 0), (2, .ref 32), (3, .ref 64), (4, .int (nI k))]) (st' := [.int (nI k + 1), .ref 1000, .ref 0]) (w' := (SH, S, T)) rfl ?_
  refine xj_E.igiv rfl rfl rfl (lw_v hL 1 (by omega)) ?_
  refine xj_E.adv 4 (pc' := 364) (ls' := [(0, .ref 1000), (1, .ref 0), (2, .ref 32), (3, .ref 64), (4, .int (nI k))]) (st' := [.int (nI k + 2), .ref 1000, .int (xs (nI k + 1).toNatClampNeg), .ref 0]) (w' := (SH, S, T)) rfl ?_
  refine xj_E.igiv rfl rfl rfl (lw_v hL 2 (by omega)) ?_
  refine xj_E.adv 4 (pc' := 370) (ls' := [(0, .ref 1000), (1, .ref 0), (2, .ref 32), (3, .ref 64), (4, .int (nI k))]) (st' := [.int (nI k + 3), .ref 1000, .int (xs (nI k + 2).toNatClampNeg), .int (xs (nI k + 1).toNatClampNeg), .ref 0]) (w' := (SH, S, T)) rfl ?_
  refine xj_E.igiv rfl rfl rfl (lw_v hL 3 (by omega)) ?_
  refine xj_E.adv 4 (pc' := 376) (ls' := [(0, .ref 1000), (1, .ref 0), (2, .ref 32), (3, .ref 64), (4, .int (nI k))]) (st' := [.int (nI k + 4), .ref 1000, .int (xs (nI k + 3).toNatClampNeg), .int (xs (nI k + 2).toNatClampNeg), .int (xs (nI k + 1).toNatClampNeg), .ref 0]) (w' := (SH, S, T)) rfl ?_
  refine xj_E.igiv rfl rfl rfl (lw_v hL 4 (by omega)) ?_
  refine xj_E.call (d := 699) rfl rfl rfl rfl rfl (ok_w_when (D := 698) (by omega) o1 o2 tg ?_ ?_ ?_)
  · intro e
    rcases o6 with h | h | h
    · show xj_E (xX L xs) 700 0 380 [(0, .ref 1000), (1, .ref 0), (2, .ref 32), (3, .ref 64), (4, .int (nI k))] [.int 0] (SH, S1, T) _
      exact la_when hL hk o3 o4 h.2 ((hK S2 _ o5).mono (fun o w c z h => ⟨h.1, by omega, by omega⟩))
    · exact absurd (h.1.symm.trans e) (by decide)
    · exact absurd (h.1.symm.trans e) (by decide)
  · intro e
    rcases o6 with h | h | h
    · exact absurd (h.1.symm.trans e) (by decide)
    · show xj_E (xX L xs) 700 0 380 [(0, .ref 1000), (1, .ref 0), (2, .ref 32), (3, .ref 64), (4, .int (nI k))] [.int 1] (SH, S1, T) _
      exact la_when hL hk o3 o4 h.2 ((hK S2 _ o5).mono (fun o w c z h => ⟨h.1, by omega, by omega⟩))
    · exact absurd (h.1.symm.trans e) (by decide)
  · intro e
    rcases o6 with h | h | h
    · exact absurd (h.1.symm.trans e) (by decide)
    · exact absurd (h.1.symm.trans e) (by decide)
    · show xj_E (xX L xs) 700 0 380 [(0, .ref 1000), (1, .ref 0), (2, .ref 32), (3, .ref 64), (4, .int (nI k))] [.int 2] (SH, S1, T) _
      exact la_when hL hk o3 o4 h.2 ((hK S2 _ o5).mono (fun o w c z h => ⟨h.1, by omega, by omega⟩))
set_option maxRecDepth 100000 in
theorem lc_begin {L : Nat} {xs : Nat → Int32} {T : Nat → Nat → Int64} {k n : Nat} {S : Nat → Nat → Int32} {t : Int32} (hL : L ≤ 2560) (hk : k + 5 ≤ L) (hA : yA S S t) (ht : t ≤ 900000) (ht0 : 0 ≤ t) (hK : ∀ S2 T2, yA S2 S2 (t + 60) → xj_E (xX L xs) 700 0 23 [(0, .ref 1000), (1, .ref 0), (2, .ref 32), (3, .ref 64), (4, .int (nI k + 5))] [] (SH, S2, T2) (fun o _ c z => o = .inl (some (.int 1)) ∧ c ≤ n ∧ z ≤ 6 * (n))) : xj_E (xX L xs) 700 0 424 [(0, .ref 1000), (1, .ref 0), (2, .ref 32), (3, .ref 64), (4, .int (nI k))] [] (SH, S, T) (fun o _ c z => o = .inl (some (.int 1)) ∧ c ≤ n + 1 ∧ z ≤ 6 * (n + 1)) := by
  obtain ⟨tag, v, S1, r, S2, o1, o2, o3, o4, o5, o6⟩ := os_begin (a := xs (nI k + 1).toNatClampNeg) hA ht ht0
  have tg : tag = 0 ∨ tag = 1 ∨ tag = 2 ∨ tag = 3 := by
    rcases o6 with h | h | h | h <;> simp [h.1]
  refine xj_E.adv 5 (pc' := 430) (ls' := [(0, .ref 1000), (1, .ref 0), (2, .ref 32), (3, .ref 64), (4, .int (nI k))]) (st' := [.int (nI k + 1), .ref 1000, .ref 0]) (w' := (SH, S, T)) rfl ?_
  refine xj_E.igiv rfl rfl rfl (lw_v hL 1 (by omega)) ?_
  refine xj_E.adv 1 (pc' := 432) (ls' := [(0, .ref 1000), (1, .ref 0), (2, .ref 32), (3, .ref 64), (4, .int (nI k))]) (st' := [.ref 64, .int (xs (nI k + 1).toNatClampNeg), .ref 0]) (w' := (SH, S, T)) rfl ?_
  refine xj_E.call (d := 699) rfl rfl rfl rfl rfl (ok_w_begin (D := 698) (by omega) o1 o2 tg ?_ ?_ ?_ ?_)
  · intro e
    rcases o6 with h | h | h | h
    · show xj_E (xX L xs) 700 0 435 [(0, .ref 1000), (1, .ref 0), (2, .ref 32), (3, .ref 64), (4, .int (nI k))] [.int 0] (SH, S1, (xj_setL T 64 0 v.toInt64)) _
      exact la_begin hL hk o3 o4 h.2.1 (fun _ => by rw [h.2.2]; rfl) ((hK S2 _ o5).mono (fun o w c z h => ⟨h.1, by omega, by omega⟩))
    · exact absurd (h.1.symm.trans e) (by decide)
    · exact absurd (h.1.symm.trans e) (by decide)
    · exact absurd (h.1.symm.trans e) (by decide)
  · intro e
    rcases o6 with h | h | h | h
    · exact absurd (h.1.symm.trans e) (by decide)
    · show xj_E (xX L xs) 700 0 435 [(0, .ref 1000), (1, .ref 0), (2, .ref 32), (3, .ref 64), (4, .int (nI k))] [.int 1] (SH, S1, T) _
      exact la_begin hL hk o3 o4 h.2 (fun z => absurd z (by decide)) ((hK S2 _ o5).mono (fun o w c z h => ⟨h.1, by omega, by omega⟩))
    · exact absurd (h.1.symm.trans e) (by decide)
    · exact absurd (h.1.symm.trans e) (by decide)
  · intro e
    rcases o6 with h | h | h | h
    · exact absurd (h.1.symm.trans e) (by decide)
    · exact absurd (h.1.symm.trans e) (by decide)
    · show xj_E (xX L xs) 700 0 435 [(0, .ref 1000), (1, .ref 0), (2, .ref 32), (3, .ref 64), (4, .int (nI k))] [.int 2] (SH, S1, T) _
      exact la_begin hL hk o3 o4 h.2 (fun z => absurd z (by decide)) ((hK S2 _ o5).mono (fun o w c z h => ⟨h.1, by omega, by omega⟩))
    · exact absurd (h.1.symm.trans e) (by decide)
  · intro e
    rcases o6 with h | h | h | h
    · exact absurd (h.1.symm.trans e) (by decide)
    · exact absurd (h.1.symm.trans e) (by decide)
    · exact absurd (h.1.symm.trans e) (by decide)
    · show xj_E (xX L xs) 700 0 435 [(0, .ref 1000), (1, .ref 0), (2, .ref 32), (3, .ref 64), (4, .int (nI k))] [.int 3] (SH, S1, T) _
      exact la_begin hL hk o3 o4 h.2 (fun z => absurd z (by decide)) ((hK S2 _ o5).mono (fun o w c z h => ⟨h.1, by omega, by omega⟩))
set_option maxRecDepth 100000 in
theorem lc_move {L : Nat} {xs : Nat → Int32} {T : Nat → Nat → Int64} {k n : Nat} {S : Nat → Nat → Int32} {t : Int32} (hL : L ≤ 2560) (hk : k + 5 ≤ L) (hA : yA S S t) (ht : t ≤ 900000) (ht0 : 0 ≤ t) (hK : ∀ S2 T2, yA S2 S2 (t + 60) → xj_E (xX L xs) 700 0 23 [(0, .ref 1000), (1, .ref 0), (2, .ref 32), (3, .ref 64), (4, .int (nI k + 5))] [] (SH, S2, T2) (fun o _ c z => o = .inl (some (.int 1)) ∧ c ≤ n ∧ z ≤ 6 * (n))) : xj_E (xX L xs) 700 0 480 [(0, .ref 1000), (1, .ref 0), (2, .ref 32), (3, .ref 64), (4, .int (nI k))] [] (SH, S, T) (fun o _ c z => o = .inl (some (.int 1)) ∧ c ≤ n + 1 ∧ z ≤ 6 * (n + 1)) := by
  obtain ⟨tag, v, S1, r, S2, o1, o2, o3, o4, o5, o6⟩ := os_move (a := xs (nI k + 1).toNatClampNeg) (b := xs (nI k + 2).toNatClampNeg) hA ht ht0
  have tg : tag = 0 ∨ tag = 1 ∨ tag = 2 ∨ tag = 3 ∨ tag = 4 := by
    rcases o6 with h | h | h | h | h <;> simp [h.1]
  refine xj_E.adv 5 (pc' := 486) (ls' := [(0, .ref 1000), (1, .ref 0), (2, .ref 32), (3, .ref 64), (4, .int (nI k))]) (st' := [.int (nI k + 1), .ref 1000, .ref 0]) (w' := (SH, S, T)) rfl ?_
  refine xj_E.igiv rfl rfl rfl (lw_v hL 1 (by omega)) ?_
  refine xj_E.adv 4 (pc' := 492) (ls' := [(0, .ref 1000), (1, .ref 0), (2, .ref 32), (3, .ref 64), (4, .int (nI k))]) (st' := [.int (nI k + 2), .ref 1000, .int (xs (nI k + 1).toNatClampNeg), .ref 0]) (w' := (SH, S, T)) rfl ?_
  refine xj_E.igiv rfl rfl rfl (lw_v hL 2 (by omega)) ?_
  refine xj_E.adv 1 (pc' := 494) (ls' := [(0, .ref 1000), (1, .ref 0), (2, .ref 32), (3, .ref 64), (4, .int (nI k))]) (st' := [.ref 64, .int (xs (nI k + 2).toNatClampNeg), .int (xs (nI k + 1).toNatClampNeg), .ref 0]) (w' := (SH, S, T)) rfl ?_
  refine xj_E.call (d := 699) rfl rfl rfl rfl rfl (ok_w_move (D := 698) (by omega) o1 o2 tg ?_ ?_ ?_ ?_ ?_)
  · intro e
    rcases o6 with h | h | h | h | h
    · show xj_E (xX L xs) 700 0 497 [(0, .ref 1000), (1, .ref 0), (2, .ref 32), (3, .ref 64), (4, .int (nI k))] [.int 0] (SH, S1, (xj_setL T 64 0 v.toInt64)) _
      exact la_move hL hk o3 o4 h.2.1 (fun _ => by rw [h.2.2]; rfl) ((hK S2 _ o5).mono (fun o w c z h => ⟨h.1, by omega, by omega⟩))
    · exact absurd (h.1.symm.trans e) (by decide)
    · exact absurd (h.1.symm.trans e) (by decide)
    · exact absurd (h.1.symm.trans e) (by decide)
    · exact absurd (h.1.symm.trans e) (by decide)
  · intro e
    rcases o6 with h | h | h | h | h
    · exact absurd (h.1.symm.trans e) (by decide)
    · exact absurd (h.1.symm.trans e) (by decide)
    · exact absurd (h.1.symm.trans e) (by decide)
    · show xj_E (xX L xs) 700 0 497 [(0, .ref 1000), (1, .ref 0), (2, .ref 32), (3, .ref 64), (4, .int (nI k))] [.int 3] (SH, S1, T) _
      exact la_move hL hk o3 o4 h.2 (fun z => absurd z (by decide)) ((hK S2 _ o5).mono (fun o w c z h => ⟨h.1, by omega, by omega⟩))
    · exact absurd (h.1.symm.trans e) (by decide)
  · intro e
    rcases o6 with h | h | h | h | h
    · exact absurd (h.1.symm.trans e) (by decide)
    · exact absurd (h.1.symm.trans e) (by decide)
    · show xj_E (xX L xs) 700 0 497 [(0, .ref 1000), (1, .ref 0), (2, .ref 32), (3, .ref 64), (4, .int (nI k))] [.int 2] (SH, S1, T) _
      exact la_move hL hk o3 o4 h.2 (fun z => absurd z (by decide)) ((hK S2 _ o5).mono (fun o w c z h => ⟨h.1, by omega, by omega⟩))
    · exact absurd (h.1.symm.trans e) (by decide)
    · exact absurd (h.1.symm.trans e) (by decide)
  · intro e
    rcases o6 with h | h | h | h | h
    · exact absurd (h.1.symm.trans e) (by decide)
    · exact absurd (h.1.symm.trans e) (by decide)
    · exact absurd (h.1.symm.trans e) (by decide)
    · exact absurd (h.1.symm.trans e) (by decide)
    · show xj_E (xX L xs) 700 0 497 [(0, .ref 1000), (1, .ref 0), (2, .ref 32), (3, .ref 64), (4, .int (nI k))] [.int 4] (SH, S1, T) _
      exact la_move hL hk o3 o4 h.2 (fun z => absurd z (by decide)) ((hK S2 _ o5).mono (fun o w c z h => ⟨h.1, by omega, by omega⟩))
  · intro e
    rcases o6 with h | h | h | h | h
    · exact absurd (h.1.symm.trans e) (by decide)
    · show xj_E (xX L xs) 700 0 497 [(0, .ref 1000), (1, .ref 0), (2, .ref 32), (3, .ref 64), (4, .int (nI k))] [.int 1] (SH, S1, T) _
      exact la_move hL hk o3 o4 h.2 (fun z => absurd z (by decide)) ((hK S2 _ o5).mono (fun o w c z h => ⟨h.1, by omega, by omega⟩))
    · exact absurd (h.1.symm.trans e) (by decide)
    · exact absurd (h.1.symm.trans e) (by decide)
    · exact absurd (h.1.symm.trans e) (by decide)
set_option maxRecDepth 100000 in
theorem lc_set {L : Nat} {xs : Nat → Int32} {T : Nat → Nat → Int64} {k n : Nat} {S : Nat → Nat → Int32} {t : Int32} (hL : L ≤ 2560) (hk : k + 5 ≤ L) (hA : yA S S t) (ht : t ≤ 900000) (ht0 : 0 ≤ t) (hK : ∀ S2 T2, yA S2 S2 (t + 60) → xj_E (xX L xs) 700 0 23 [(0, .ref 1000), (1, .ref 0), (2, .ref 32), (3, .ref 64), (4, .int (nI k + 5))] [] (SH, S2, T2) (fun o _ c z => o = .inl (some (.int 1)) ∧ c ≤ n ∧ z ≤ 6 * (n))) : xj_E (xX L xs) 700 0 548 [(0, .ref 1000), (1, .ref 0), (2, .ref 32), (3, .ref 64), (4, .int (nI k))] [] (SH, S, T) (fun o _ c z => o = .inl (some (.int 1)) ∧ c ≤ n + 1 ∧ z ≤ 6 * (n + 1)) := by
  obtain ⟨tag, v, S1, r, S2, o1, o2, o3, o4, o5, o6⟩ := os_set (a := xs (nI k + 1).toNatClampNeg) (b := xs (nI k + 2).toNatClampNeg) hA ht ht0
  have tg : tag = 0 ∨ tag = 2 ∨ tag = 3 := by
    rcases o6 with h | h | h <;> simp [h.1]
  refine xj_E.adv 5 (pc' := 554) (ls' := [(0, .ref 1000), (1, .ref 0), (2, .ref 32), (3, .ref 64), (4, .int (nI k))]) (st' := [.int (nI k + 1), .ref 1000, .ref 0]) (w' := (SH, S, T)) rfl ?_
  refine xj_E.igiv rfl rfl rfl (lw_v hL 1 (by omega)) ?_
  refine xj_E.adv 4 (pc' := 560) (ls' := [(0, .ref 1000), (1, .ref 0), (2, .ref 32), (3, .ref 64), (4, .int (nI k))]) (st' := [.int (nI k + 2), .ref 1000, .int (xs (nI k + 1).toNatClampNeg), .ref 0]) (w' := (SH, S, T)) rfl ?_
  refine xj_E.igiv rfl rfl rfl (lw_v hL 2 (by omega)) ?_
  refine xj_E.adv 1 (pc' := 562) (ls' := [(0, .ref 1000), (1, .ref 0), (2, .ref 32), (3, .ref 64), (4, .int (nI k))]) (st' := [.ref 64, .int (xs (nI k + 2).toNatClampNeg), .int (xs (nI k + 1).toNatClampNeg), .ref 0]) (w' := (SH, S, T)) rfl ?_
  refine xj_E.call (d := 699) rfl rfl rfl rfl rfl (ok_w_set (D := 698) (by omega) o1 o2 tg ?_ ?_ ?_)
  · intro e
    rcases o6 with h | h | h
    · show xj_E (xX L xs) 700 0 565 [(0, .ref 1000), (1, .ref 0), (2, .ref 32), (3, .ref 64), (4, .int (nI k))] [.int 0] (SH, S1, (xj_setL T 64 0 v.toInt64)) _
      exact la_set hL hk o3 o4 h.2.1 (fun _ => by rw [h.2.2]; rfl) ((hK S2 _ o5).mono (fun o w c z h => ⟨h.1, by omega, by omega⟩))
    · exact absurd (h.1.symm.trans e) (by decide)
    · exact absurd (h.1.symm.trans e) (by decide)
  · intro e
    rcases o6 with h | h | h
    · exact absurd (h.1.symm.trans e) (by decide)
    · show xj_E (xX L xs) 700 0 565 [(0, .ref 1000), (1, .ref 0), (2, .ref 32), (3, .ref 64), (4, .int (nI k))] [.int 1] (SH, S1, T) _
      exact la_set hL hk o3 o4 h.2 (fun z => absurd z (by decide)) ((hK S2 _ o5).mono (fun o w c z h => ⟨h.1, by omega, by omega⟩))
    · exact absurd (h.1.symm.trans e) (by decide)
  · intro e
    rcases o6 with h | h | h
    · exact absurd (h.1.symm.trans e) (by decide)
    · exact absurd (h.1.symm.trans e) (by decide)
    · show xj_E (xX L xs) 700 0 565 [(0, .ref 1000), (1, .ref 0), (2, .ref 32), (3, .ref 64), (4, .int (nI k))] [.int 2] (SH, S1, T) _
      exact la_set hL hk o3 o4 h.2 (fun z => absurd z (by decide)) ((hK S2 _ o5).mono (fun o w c z h => ⟨h.1, by omega, by omega⟩))
set_option maxRecDepth 100000 in
theorem lc_sentry {L : Nat} {xs : Nat → Int32} {T : Nat → Nat → Int64} {k n : Nat} {S : Nat → Nat → Int32} {t : Int32} (hL : L ≤ 2560) (hk : k + 5 ≤ L) (hA : yA S S t) (ht : t ≤ 900000) (ht0 : 0 ≤ t) (hK : ∀ S2 T2, yA S2 S2 (t + 60) → xj_E (xX L xs) 700 0 23 [(0, .ref 1000), (1, .ref 0), (2, .ref 32), (3, .ref 64), (4, .int (nI k + 5))] [] (SH, S2, T2) (fun o _ c z => o = .inl (some (.int 1)) ∧ c ≤ n ∧ z ≤ 6 * (n))) : xj_E (xX L xs) 700 0 188 [(0, .ref 1000), (1, .ref 0), (2, .ref 32), (3, .ref 64), (4, .int (nI k))] [] (SH, S, T) (fun o _ c z => o = .inl (some (.int 1)) ∧ c ≤ n + 1 ∧ z ≤ 6 * (n + 1)) := by
  refine xj_E.adv 5 (pc' := 194) (ls' := [(0, .ref 1000), (1, .ref 0), (2, .ref 32), (3, .ref 64), (4, .int (nI k))]) (st' := [.int (nI k + 1), .ref 1000, .ref 0]) (w' := (SH, S, T)) rfl ?_
  refine xj_E.igiv rfl rfl rfl (lw_v hL 1 (by omega)) ?_
  refine xj_E.adv 4 (pc' := 200) (ls' := [(0, .ref 1000), (1, .ref 0), (2, .ref 32), (3, .ref 64), (4, .int (nI k))]) (st' := [.int (nI k + 2), .ref 1000, .int (xs (nI k + 1).toNatClampNeg), .ref 0]) (w' := (SH, S, T)) rfl ?_
  refine xj_E.igiv rfl rfl rfl (lw_v hL 2 (by omega)) ?_
  refine xj_E.adv 1 (pc' := (if xj_cmp .eq (xs (nI k + 2).toNatClampNeg) 0 = true then 208 else 204)) (ls' := [(0, .ref 1000), (1, .ref 0), (2, .ref 32), (3, .ref 64), (4, .int (nI k))]) (st' := [.int (xs (nI k + 1).toNatClampNeg), .ref 0]) (w' := (SH, S, T)) rfl ?_
  refine xj_E.b_eq (fun q0 => ?_) (fun q0 => ?_)
  · obtain ⟨tag, v, S1, r, S2, o1, o2, o3, o4, o5, o6⟩ := os_sentry (a := xs (nI k + 1).toNatClampNeg) (b := 0) hA ht ht0
    have tg : tag = 0 ∨ tag = 1 ∨ tag = 2 := by
      rcases o6 with h | h | h <;> simp [h.1]
    refine xj_E.adv 2 (pc' := 210) (ls' := [(0, .ref 1000), (1, .ref 0), (2, .ref 32), (3, .ref 64), (4, .int (nI k))]) (st' := [.ref 64, .int 0, .int (xs (nI k + 1).toNatClampNeg), .ref 0]) (w' := (SH, S, T)) rfl ?_
    refine xj_E.call (d := 699) rfl rfl rfl rfl rfl (ok_w_sentry (D := 698) (by omega) o1 o2 tg ?_ ?_ ?_)
    · intro e
      rcases o6 with h | h | h
      · show xj_E (xX L xs) 700 0 213 [(0, .ref 1000), (1, .ref 0), (2, .ref 32), (3, .ref 64), (4, .int (nI k))] [.int 0] (SH, S1, (xj_setL T 64 0 v.toInt64)) _
        exact la_sentry0 hL hk q0 o3 o4 h.2.1 (fun _ => by rw [h.2.2]; rfl) ((hK S2 _ o5).mono (fun o w c z h => ⟨h.1, by omega, by omega⟩))
      · exact absurd (h.1.symm.trans e) (by decide)
      · exact absurd (h.1.symm.trans e) (by decide)
    · intro e
      rcases o6 with h | h | h
      · exact absurd (h.1.symm.trans e) (by decide)
      · show xj_E (xX L xs) 700 0 213 [(0, .ref 1000), (1, .ref 0), (2, .ref 32), (3, .ref 64), (4, .int (nI k))] [.int 1] (SH, S1, T) _
        exact la_sentry0 hL hk q0 o3 o4 h.2 (fun z => absurd z (by decide)) ((hK S2 _ o5).mono (fun o w c z h => ⟨h.1, by omega, by omega⟩))
      · exact absurd (h.1.symm.trans e) (by decide)
    · intro e
      rcases o6 with h | h | h
      · exact absurd (h.1.symm.trans e) (by decide)
      · exact absurd (h.1.symm.trans e) (by decide)
      · show xj_E (xX L xs) 700 0 213 [(0, .ref 1000), (1, .ref 0), (2, .ref 32), (3, .ref 64), (4, .int (nI k))] [.int 2] (SH, S1, T) _
        exact la_sentry0 hL hk q0 o3 o4 h.2 (fun z => absurd z (by decide)) ((hK S2 _ o5).mono (fun o w c z h => ⟨h.1, by omega, by omega⟩))
  · obtain ⟨tag, v, S1, r, S2, o1, o2, o3, o4, o5, o6⟩ := os_sentry (a := xs (nI k + 1).toNatClampNeg) (b := 1) hA ht ht0
    have tg : tag = 0 ∨ tag = 1 ∨ tag = 2 := by
      rcases o6 with h | h | h <;> simp [h.1]
    refine xj_E.adv 3 (pc' := 210) (ls' := [(0, .ref 1000), (1, .ref 0), (2, .ref 32), (3, .ref 64), (4, .int (nI k))]) (st' := [.ref 64, .int 1, .int (xs (nI k + 1).toNatClampNeg), .ref 0]) (w' := (SH, S, T)) rfl ?_
    refine xj_E.call (d := 699) rfl rfl rfl rfl rfl (ok_w_sentry (D := 698) (by omega) o1 o2 tg ?_ ?_ ?_)
    · intro e
      rcases o6 with h | h | h
      · show xj_E (xX L xs) 700 0 213 [(0, .ref 1000), (1, .ref 0), (2, .ref 32), (3, .ref 64), (4, .int (nI k))] [.int 0] (SH, S1, (xj_setL T 64 0 v.toInt64)) _
        exact la_sentry1 hL hk q0 o3 o4 h.2.1 (fun _ => by rw [h.2.2]; rfl) ((hK S2 _ o5).mono (fun o w c z h => ⟨h.1, by omega, by omega⟩))
      · exact absurd (h.1.symm.trans e) (by decide)
      · exact absurd (h.1.symm.trans e) (by decide)
    · intro e
      rcases o6 with h | h | h
      · exact absurd (h.1.symm.trans e) (by decide)
      · show xj_E (xX L xs) 700 0 213 [(0, .ref 1000), (1, .ref 0), (2, .ref 32), (3, .ref 64), (4, .int (nI k))] [.int 1] (SH, S1, T) _
        exact la_sentry1 hL hk q0 o3 o4 h.2 (fun z => absurd z (by decide)) ((hK S2 _ o5).mono (fun o w c z h => ⟨h.1, by omega, by omega⟩))
      · exact absurd (h.1.symm.trans e) (by decide)
    · intro e
      rcases o6 with h | h | h
      · exact absurd (h.1.symm.trans e) (by decide)
      · exact absurd (h.1.symm.trans e) (by decide)
      · show xj_E (xX L xs) 700 0 213 [(0, .ref 1000), (1, .ref 0), (2, .ref 32), (3, .ref 64), (4, .int (nI k))] [.int 2] (SH, S1, T) _
        exact la_sentry1 hL hk q0 o3 o4 h.2 (fun z => absurd z (by decide)) ((hK S2 _ o5).mono (fun o w c z h => ⟨h.1, by omega, by omega⟩))
