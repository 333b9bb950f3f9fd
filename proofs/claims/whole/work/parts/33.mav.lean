/-! a method that stores: our machine does so -/
seal f_l_copyFrom14 d_l_copyFrom14 f_l_copyFrom23 d_l_copyFrom23 f_l_add d_l_add f_l_note d_l_note f_p_addItem d_p_addItem f_p_addSentry d_p_addSentry f_p_addPart d_p_addPart f_p_putIfPart d_p_putIfPart f_c_openCommand d_c_openCommand f_c_mark d_c_mark f_m_fail d_m_fail f_m_item d_m_item f_m_sentry d_m_sentry f_m_on d_m_on f_m_when d_m_when f_m_book d_m_book f_m_mark d_m_mark f_m_create d_m_create f_m_again d_m_again f_m_keep d_m_keep f_m_putBack d_m_putBack f_m_can d_m_can f_m_markVariable d_m_markVariable f_m_value d_m_value f_m_instances d_m_instances f_m_instance d_m_instance f_m_marked d_m_marked f_m_moves d_m_moves f_m_history d_m_history f_c_markSiblings d_c_markSiblings f_c_markAll d_c_markAll f_m_enter d_m_enter f_m_make d_m_make f_m_letIn d_m_letIn f_m_workOff d_m_workOff f_m_finish d_m_finish f_m_begin d_m_begin f_m_move d_m_move f_m_set d_m_set f_c_create d_c_create f_c_make d_c_make f_c_moveWhatIsIn d_c_moveWhatIsIn f_c_createWhatIsIn d_c_createWhatIsIn f_c_exitChildren d_c_exitChildren f_c_moveChildren d_c_moveChildren f_c_repeat d_c_repeat f_c_letIn d_c_letIn f_c_item d_c_item f_c_sentry d_c_sentry f_c_on d_c_on f_c_when d_c_when f_c_workOff d_c_workOff f_c_begin d_c_begin f_c_move d_c_move f_c_set d_c_set r_f_floorMod d_f_floorMod r_l_hasBegun d_l_hasBegun r_l_has d_l_has r_l_isFinal d_l_isFinal r_l_isWaiting d_l_isWaiting r_p_partBit d_p_partBit r_p_hasItem d_p_hasItem r_p_isStage d_p_isStage r_p_hasFlag d_p_hasFlag r_p_hasEntry d_p_hasEntry r_p_mayHaveSentry d_p_mayHaveSentry r_p_hasSentry d_p_hasSentry r_p_hasAllParts d_p_hasAllParts r_p_partsHearing d_p_partsHearing r_p_ifPartHolds d_p_ifPartHolds r_c_instances d_c_instances r_c_instance d_c_instance r_c_marked d_c_marked r_c_moves d_c_moves r_c_history d_c_history r_c_isVariable d_c_isVariable r_c_isCommandMove d_c_isCommandMove r_c_parentLets d_c_parentLets r_c_isSettled d_c_isSettled r_c_hasWaitingChild d_c_hasWaitingChild r_m_thrown d_m_thrown r_m_within d_m_within r_m_isSentry d_m_isSentry r_m_isFinal d_m_isFinal r_m_kindOf d_m_kindOf r_m_hasFlag d_m_hasFlag r_m_hasEntry d_m_hasEntry r_m_parentActive d_m_parentActive r_m_target d_m_target r_m_follows d_m_follows r_m_satisfied d_m_satisfied r_m_someSatisfied d_m_someSatisfied r_m_settled d_m_settled r_m_done d_m_done r_m_toExit d_m_toExit r_m_toLetIn d_m_toLetIn r_m_toComplete d_m_toComplete r_m_allowed d_m_allowed r_m_refusal d_m_refusal r_p_mayHear d_p_mayHear r_p_isSatisfied d_p_isSatisfied r_c_value d_c_value r_c_stateAndKindFit d_c_stateAndKindFit r_c_hasSatisfied d_c_hasSatisfied r_c_isDone d_c_isDone r_c_mayBeMoved d_c_mayBeMoved r_c_lowestToExit d_c_lowestToExit r_c_lowestToEnter d_c_lowestToEnter r_c_lowestToComplete d_c_lowestToComplete r_c_can d_c_can
set_option maxHeartbeats 4000000 in
set_option maxRecDepth 100000 in
theorem okk_m_keep {L : Nat} {xs : Nat → Int32} {T : Nat → Nat → Int64} (n : Nat) : (∀ (u1 : Int32) S D (P : (Option Value ⊕ Nat) → xj_W → Nat → Nat → Prop), 0 ≤ D → (dk_m_keep n).1 u1 S → (∀ v S9, (v, S9) = (fk_m_keep n).1 u1 S → P (.inl none) (SH, S9, T) 0 0) → xj_E (xX L xs) D 98 18 [(0, .ref 32), (1, .int u1)] [] (SH, S, T) P) ∧
    (∀ (u1 : Int32) S D (P : (Option Value ⊕ Nat) → xj_W → Nat → Nat → Prop), 0 ≤ D → (dk_m_keep n).2.1 u1 S → (∀ v S9, (v, S9) = (fk_m_keep n).2.1 u1 S → P (.inl none) (SH, S9, T) 0 0) → xj_E (xX L xs) D 98 92 [(0, .ref 32), (1, .int u1)] [] (SH, S, T) P) ∧
    (∀ (u1 : Int32) S D (P : (Option Value ⊕ Nat) → xj_W → Nat → Nat → Prop), 0 ≤ D → (dk_m_keep n).2.2 u1 S → (∀ v S9, (v, S9) = (fk_m_keep n).2.2 u1 S → P (.inl none) (SH, S9, T) 0 0) → xj_E (xX L xs) D 98 117 [(0, .ref 32), (1, .int u1)] [] (SH, S, T) P) := by
  induction n with
  | zero => exact ⟨fun _ _ _ _ _ hd _ => hd.elim, fun _ _ _ _ _ hd _ => hd.elim, fun _ _ _ _ _ hd _ => hd.elim⟩
  | succ n ih =>
    refine ⟨?_, ?_, ?_⟩
    · intro u1 S D P hD hd h
      have h : ∀ v S9, (v, S9) = ((if 40 ≤ u1 then ((fk_m_keep n).2.1 0 S) else ((fk_m_keep n).1 (u1 + 1) (xj_set (xj_set (xj_set (xj_set (xj_set S 53 u1.toNatClampNeg (S 45 u1.toNatClampNeg)) 54 u1.toNatClampNeg (S 46 u1.toNatClampNeg)) 55 u1.toNatClampNeg (S 47 u1.toNatClampNeg)) 56 u1.toNatClampNeg (S 48 u1.toNatClampNeg)) 57 u1.toNatClampNeg (S 49 u1.toNatClampNeg)))) : Int32 × (Nat → Nat → Int32)) → P (.inl none) (SH, S9, T) 0 0 := h
      refine xj_E.adv 3 (pc' := (if xj_cmp .ge u1 40 = true then 90 else 24)) (ls' := [(0, .ref 32), (1, .int u1)]) (st' := []) (w' := (SH, S, T)) rfl ?_
      refine xj_E.b_ge (fun q => ?_) (fun q => ?_)
      · have hd := hd.1 q
        have h := fun v S9 e => h v S9 (Eq.trans e (if_pos q).symm)
        refine xj_E.adv 2 (pc' := 92) (ls' := [(1, .int 0), (0, .ref 32)]) (st' := []) (w' := (SH, S, T)) rfl ?_
        refine xj_E.loc [0, 1] xhth rfl (show xj_E (xX L xs) D 98 92 [(0, .ref 32), (1, .int 0)] [] (SH, S, T) P from ?_)
        exact (ih.2.1) _ _ _ _ (by omega) hd h
      · have hd := hd.2 q
        have h := fun v S9 e => h v S9 (Eq.trans e (if_neg q).symm)
        refine xj_E.adv 6 (pc' := 34) (ls' := [(0, .ref 32), (1, .int u1)]) (st' := [.int u1, .ref 45, .int u1, .ref 53]) (w' := (SH, S, T)) rfl ?_
        refine xj_E.iald rfl rfl hd.1 ?_
        have hd := hd.2
        refine xj_E.iast rfl rfl hd.1 ?_
        have hd := hd.2
        refine xj_E.adv 6 (pc' := 46) (ls' := [(0, .ref 32), (1, .int u1)]) (st' := [.int u1, .ref 46, .int u1, .ref 54]) (w' := (SH, (xj_set S 53 u1.toNatClampNeg (S 45 u1.toNatClampNeg)), T)) rfl ?_
        refine xj_E.iald rfl rfl hd.1 ?_
        have hd := hd.2
        refine xj_E.iast rfl rfl hd.1 ?_
        have hd := hd.2
        refine xj_E.adv 6 (pc' := 58) (ls' := [(0, .ref 32), (1, .int u1)]) (st' := [.int u1, .ref 47, .int u1, .ref 55]) (w' := (SH, (xj_set (xj_set S 53 u1.toNatClampNeg (S 45 u1.toNatClampNeg)) 54 u1.toNatClampNeg (S 46 u1.toNatClampNeg)), T)) rfl ?_
        refine xj_E.iald rfl rfl hd.1 ?_
        have hd := hd.2
        refine xj_E.iast rfl rfl hd.1 ?_
        have hd := hd.2
        refine xj_E.adv 6 (pc' := 70) (ls' := [(0, .ref 32), (1, .int u1)]) (st' := [.int u1, .ref 48, .int u1, .ref 56]) (w' := (SH, (xj_set (xj_set (xj_set S 53 u1.toNatClampNeg (S 45 u1.toNatClampNeg)) 54 u1.toNatClampNeg (S 46 u1.toNatClampNeg)) 55 u1.toNatClampNeg (S 47 u1.toNatClampNeg)), T)) rfl ?_
        refine xj_E.iald rfl rfl hd.1 ?_
        have hd := hd.2
        refine xj_E.iast rfl rfl hd.1 ?_
        have hd := hd.2
        refine xj_E.adv 6 (pc' := 82) (ls' := [(0, .ref 32), (1, .int u1)]) (st' := [.int u1, .ref 49, .int u1, .ref 57]) (w' := (SH, (xj_set (xj_set (xj_set (xj_set S 53 u1.toNatClampNeg (S 45 u1.toNatClampNeg)) 54 u1.toNatClampNeg (S 46 u1.toNatClampNeg)) 55 u1.toNatClampNeg (S 47 u1.toNatClampNeg)) 56 u1.toNatClampNeg (S 48 u1.toNatClampNeg)), T)) rfl ?_
        refine xj_E.iald rfl rfl hd.1 ?_
        have hd := hd.2
        refine xj_E.iast rfl rfl hd.1 ?_
        have hd := hd.2
        refine xj_E.adv 2 (pc' := 18) (ls' := [(1, .int (u1 + 1)), (0, .ref 32)]) (st' := []) (w' := (SH, (xj_set (xj_set (xj_set (xj_set (xj_set S 53 u1.toNatClampNeg (S 45 u1.toNatClampNeg)) 54 u1.toNatClampNeg (S 46 u1.toNatClampNeg)) 55 u1.toNatClampNeg (S 47 u1.toNatClampNeg)) 56 u1.toNatClampNeg (S 48 u1.toNatClampNeg)) 57 u1.toNatClampNeg (S 49 u1.toNatClampNeg)), T)) rfl ?_
        refine xj_E.loc [0, 1] xhth rfl (show xj_E (xX L xs) D 98 18 [(0, .ref 32), (1, .int (u1 + 1))] [] (SH, (xj_set (xj_set (xj_set (xj_set (xj_set S 53 u1.toNatClampNeg (S 45 u1.toNatClampNeg)) 54 u1.toNatClampNeg (S 46 u1.toNatClampNeg)) 55 u1.toNatClampNeg (S 47 u1.toNatClampNeg)) 56 u1.toNatClampNeg (S 48 u1.toNatClampNeg)) 57 u1.toNatClampNeg (S 49 u1.toNatClampNeg)), T) P from ?_)
        exact (ih.1) _ _ _ _ (by omega) hd h
    · intro u1 S D P hD hd h
      have h : ∀ v S9, (v, S9) = ((if 4 ≤ u1 then ((fk_m_keep n).2.2 0 S) else ((fk_m_keep n).2.1 (u1 + 1) (xj_set S 58 u1.toNatClampNeg (S 50 u1.toNatClampNeg)))) : Int32 × (Nat → Nat → Int32)) → P (.inl none) (SH, S9, T) 0 0 := h
      refine xj_E.adv 3 (pc' := (if xj_cmp .ge u1 4 = true then 115 else 97)) (ls' := [(0, .ref 32), (1, .int u1)]) (st' := []) (w' := (SH, S, T)) rfl ?_
      refine xj_E.b_ge (fun q => ?_) (fun q => ?_)
      · have hd := hd.1 q
        have h := fun v S9 e => h v S9 (Eq.trans e (if_pos q).symm)
        refine xj_E.adv 2 (pc' := 117) (ls' := [(1, .int 0), (0, .ref 32)]) (st' := []) (w' := (SH, S, T)) rfl ?_
        refine xj_E.loc [0, 1] xhth rfl (show xj_E (xX L xs) D 98 117 [(0, .ref 32), (1, .int 0)] [] (SH, S, T) P from ?_)
        exact (ih.2.2) _ _ _ _ (by omega) hd h
      · have hd := hd.2 q
        have h := fun v S9 e => h v S9 (Eq.trans e (if_neg q).symm)
        refine xj_E.adv 6 (pc' := 107) (ls' := [(0, .ref 32), (1, .int u1)]) (st' := [.int u1, .ref 50, .int u1, .ref 58]) (w' := (SH, S, T)) rfl ?_
        refine xj_E.iald rfl rfl hd.1 ?_
        have hd := hd.2
        refine xj_E.iast rfl rfl hd.1 ?_
        have hd := hd.2
        refine xj_E.adv 2 (pc' := 92) (ls' := [(1, .int (u1 + 1)), (0, .ref 32)]) (st' := []) (w' := (SH, (xj_set S 58 u1.toNatClampNeg (S 50 u1.toNatClampNeg)), T)) rfl ?_
        refine xj_E.loc [0, 1] xhth rfl (show xj_E (xX L xs) D 98 92 [(0, .ref 32), (1, .int (u1 + 1))] [] (SH, (xj_set S 58 u1.toNatClampNeg (S 50 u1.toNatClampNeg)), T) P from ?_)
        exact (ih.2.1) _ _ _ _ (by omega) hd h
    · intro u1 S D P hD hd h
      have h : ∀ v S9, (v, S9) = ((if 48 ≤ u1 then ((0, (xj_set (xj_set S 32 37 0) 32 38 0))) else ((fk_m_keep n).2.2 (u1 + 1) (xj_set (xj_set S 59 u1.toNatClampNeg (S 51 u1.toNatClampNeg)) 60 u1.toNatClampNeg (S 52 u1.toNatClampNeg)))) : Int32 × (Nat → Nat → Int32)) → P (.inl none) (SH, S9, T) 0 0 := h
      refine xj_E.adv 3 (pc' := (if xj_cmp .ge u1 48 = true then 153 else 123)) (ls' := [(0, .ref 32), (1, .int u1)]) (st' := []) (w' := (SH, S, T)) rfl ?_
      refine xj_E.b_ge (fun q => ?_) (fun q => ?_)
      · have hd := hd.1 q
        have h := fun v S9 e => h v S9 (Eq.trans e (if_pos q).symm)
        refine xj_E.adv 6 (pc' := 163) (ls' := [(0, .ref 32), (1, .int u1)]) (st' := []) (w' := (SH, (xj_set (xj_set S 32 37 0) 32 38 0), T)) rfl ?_
        exact xj_E.ret rfl rfl rfl rfl (h _ _ rfl)
      · have hd := hd.2 q
        have h := fun v S9 e => h v S9 (Eq.trans e (if_neg q).symm)
        refine xj_E.adv 6 (pc' := 133) (ls' := [(0, .ref 32), (1, .int u1)]) (st' := [.int u1, .ref 51, .int u1, .ref 59]) (w' := (SH, S, T)) rfl ?_
        refine xj_E.iald rfl rfl hd.1 ?_
        have hd := hd.2
        refine xj_E.iast rfl rfl hd.1 ?_
        have hd := hd.2
        refine xj_E.adv 6 (pc' := 145) (ls' := [(0, .ref 32), (1, .int u1)]) (st' := [.int u1, .ref 52, .int u1, .ref 60]) (w' := (SH, (xj_set S 59 u1.toNatClampNeg (S 51 u1.toNatClampNeg)), T)) rfl ?_
        refine xj_E.iald rfl rfl hd.1 ?_
        have hd := hd.2
        refine xj_E.iast rfl rfl hd.1 ?_
        have hd := hd.2
        refine xj_E.adv 2 (pc' := 117) (ls' := [(1, .int (u1 + 1)), (0, .ref 32)]) (st' := []) (w' := (SH, (xj_set (xj_set S 59 u1.toNatClampNeg (S 51 u1.toNatClampNeg)) 60 u1.toNatClampNeg (S 52 u1.toNatClampNeg)), T)) rfl ?_
        refine xj_E.loc [0, 1] xhth rfl (show xj_E (xX L xs) D 98 117 [(0, .ref 32), (1, .int (u1 + 1))] [] (SH, (xj_set (xj_set S 59 u1.toNatClampNeg (S 51 u1.toNatClampNeg)) 60 u1.toNatClampNeg (S 52 u1.toNatClampNeg)), T) P from ?_)
        exact (ih.2.2) _ _ _ _ (by omega) hd h
