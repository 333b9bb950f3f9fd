/-! a method that stores: our machine does so -/
seal f_l_copyFrom14 d_l_copyFrom14 f_l_copyFrom23 d_l_copyFrom23 f_l_add d_l_add f_l_note d_l_note f_p_addItem d_p_addItem f_p_addSentry d_p_addSentry f_p_addPart d_p_addPart f_p_putIfPart d_p_putIfPart f_c_openCommand d_c_openCommand f_c_mark d_c_mark f_m_fail d_m_fail f_m_item d_m_item f_m_sentry d_m_sentry f_m_on d_m_on f_m_when d_m_when f_m_book d_m_book f_m_mark d_m_mark f_m_create d_m_create f_m_again d_m_again f_m_keep d_m_keep f_m_putBack d_m_putBack f_m_can d_m_can f_m_markVariable d_m_markVariable f_m_value d_m_value f_m_instances d_m_instances f_m_instance d_m_instance f_m_marked d_m_marked f_m_moves d_m_moves f_m_history d_m_history f_c_markSiblings d_c_markSiblings f_c_markAll d_c_markAll f_m_enter d_m_enter f_m_make d_m_make f_m_letIn d_m_letIn f_m_workOff d_m_workOff f_m_finish d_m_finish f_m_begin d_m_begin f_m_move d_m_move f_m_set d_m_set f_c_create d_c_create f_c_make d_c_make f_c_moveWhatIsIn d_c_moveWhatIsIn f_c_createWhatIsIn d_c_createWhatIsIn f_c_exitChildren d_c_exitChildren f_c_moveChildren d_c_moveChildren f_c_repeat d_c_repeat f_c_letIn d_c_letIn f_c_item d_c_item f_c_sentry d_c_sentry f_c_on d_c_on f_c_when d_c_when f_c_workOff d_c_workOff f_c_begin d_c_begin f_c_move d_c_move f_c_set d_c_set r_f_floorMod d_f_floorMod r_l_hasBegun d_l_hasBegun r_l_has d_l_has r_l_isFinal d_l_isFinal r_l_isWaiting d_l_isWaiting r_p_partBit d_p_partBit r_p_hasItem d_p_hasItem r_p_isStage d_p_isStage r_p_hasFlag d_p_hasFlag r_p_hasEntry d_p_hasEntry r_p_mayHaveSentry d_p_mayHaveSentry r_p_hasSentry d_p_hasSentry r_p_hasAllParts d_p_hasAllParts r_p_partsHearing d_p_partsHearing r_p_ifPartHolds d_p_ifPartHolds r_c_instances d_c_instances r_c_instance d_c_instance r_c_marked d_c_marked r_c_moves d_c_moves r_c_history d_c_history r_c_isVariable d_c_isVariable r_c_isCommandMove d_c_isCommandMove r_c_parentLets d_c_parentLets r_c_isSettled d_c_isSettled r_c_hasWaitingChild d_c_hasWaitingChild r_m_thrown d_m_thrown r_m_within d_m_within r_m_isSentry d_m_isSentry r_m_isFinal d_m_isFinal r_m_kindOf d_m_kindOf r_m_hasFlag d_m_hasFlag r_m_hasEntry d_m_hasEntry r_m_parentActive d_m_parentActive r_m_target d_m_target r_m_follows d_m_follows r_m_satisfied d_m_satisfied r_m_someSatisfied d_m_someSatisfied r_m_settled d_m_settled r_m_done d_m_done r_m_toExit d_m_toExit r_m_toLetIn d_m_toLetIn r_m_toComplete d_m_toComplete r_m_allowed d_m_allowed r_m_refusal d_m_refusal r_p_mayHear d_p_mayHear r_p_isSatisfied d_p_isSatisfied r_c_value d_c_value r_c_stateAndKindFit d_c_stateAndKindFit r_c_hasSatisfied d_c_hasSatisfied r_c_isDone d_c_isDone r_c_mayBeMoved d_c_mayBeMoved r_c_lowestToExit d_c_lowestToExit r_c_lowestToEnter d_c_lowestToEnter r_c_lowestToComplete d_c_lowestToComplete r_c_can d_c_can
set_option maxHeartbeats 4000000 in
set_option maxRecDepth 100000 in
theorem ok_m_enter {L : Nat} {xs : Nat → Int32} {T : Nat → Nat → Int64} {D : Nat} {S : (Nat → Nat → Int32)} {P : (Option Value ⊕ Nat) → xj_W → Nat → Nat → Prop} {a b : Int32} (hD : 4 ≤ D) (hd : d_m_enter a b S) (h : ∀ v S9, (v, S9) = f_m_enter a b S → P (.inl none) (SH, S9, T) 0 0) : xj_E (xX L xs) D 85 0 [(0, .ref 32), (1, .int a), (2, .int b)] [] (SH, S, T) P := by
  unfold d_m_enter at hd
  unfold f_m_enter at h
  obtain ⟨D1, rfl⟩ : ∃ D1, D = D1 + 1 := ⟨D - 1, by omega⟩
  refine xj_E.adv 3 (pc' := 3) (ls' := [(0, .ref 32), (1, .int a), (2, .int b)]) (st' := [.int b, .int a, .ref 32]) (w' := (SH, S, T)) rfl ?_
  refine xj_E.calli (d := D1) (S := SH) rfl rfl rfl rfl rfl (ok_m_book (by omega) hd.1 ?_)
  intro v1 S1 e1
  refine ⟨_, _, _, rfl, rfl, rfl, rfl, ?_⟩
  have hd := hd.2
  generalize f_m_book a b S = Xe1 at e1 hd h
  subst e1
  have h : ∀ v S9, (v, S9) = ((if v1 ≠ 0 then (match f_m_mark a b (xj_set S1 47 a.toNatClampNeg (r_m_target S1 b)) with | (_, S2) => if (r_m_kindOf S2 a) ≠ 0 then (match f_m_again a b S2 with | (_, S3) => (0, S3)) else (if b ≠ 2 then (if b = 4 then ((0, (xj_set (xj_set (xj_set (xj_set S2 61 (S2 32 39).toNatClampNeg a) 62 (S2 32 39).toNatClampNeg b) 63 (S2 32 39).toNatClampNeg 0) 32 39 ((S2 32 39) + 1)))) else (if b = 9 then ((0, (xj_set (xj_set (xj_set (xj_set S2 61 (S2 32 39).toNatClampNeg a) 62 (S2 32 39).toNatClampNeg b) 63 (S2 32 39).toNatClampNeg 0) 32 39 ((S2 32 39) + 1)))) else (if b = 5 then ((0, (xj_set (xj_set (xj_set (xj_set S2 61 (S2 32 39).toNatClampNeg a) 62 (S2 32 39).toNatClampNeg b) 63 (S2 32 39).toNatClampNeg 0) 32 39 ((S2 32 39) + 1)))) else (if b ≠ 6 then (match f_m_again a b S2 with | (_, S4) => (0, S4)) else ((0, (xj_set (xj_set (xj_set (xj_set S2 61 (S2 32 39).toNatClampNeg a) 62 (S2 32 39).toNatClampNeg b) 63 (S2 32 39).toNatClampNeg 0) 32 39 ((S2 32 39) + 1)))))))) else (fk_m_enter 200 a b 1 1 S2))) else ((0, S1))) : Int32 × (Nat → Nat → Int32)) → P (.inl none) (SH, S9, T) 0 0 := h
  refine xj_E.adv 1 (pc' := (if xj_cmp .ne v1 0 = true then 10 else 9)) (ls' := [(0, .ref 32), (1, .int a), (2, .int b)]) (st' := []) (w' := (SH, S1, T)) rfl ?_
  refine xj_E.b_ne (fun q => ?_) (fun q => ?_)
  · have hd := hd.1 q
    have h := fun v S9 e => h v S9 (Eq.trans e (if_pos q).symm)
    refine xj_E.adv 4 (pc' := 16) (ls' := [(0, .ref 32), (1, .int a), (2, .int b)]) (st' := [.int b, .int a, .ref 47]) (w' := (SH, S1, T)) rfl ?_
    refine xj_E.calli (d := D1) (S := SH) rfl rfl rfl rfl rfl (xj_E.deep (ok_m_target (d := 0) hd.1 ?_) (by omega))
    intro w1 f1
    refine ⟨_, _, _, rfl, rfl, rfl, rfl, ?_⟩
    have hd := hd.2
    rw [← f1] at hd
    have h : ∀ v S9, (v, S9) = ((match f_m_mark a b (xj_set S1 47 a.toNatClampNeg (r_m_target S1 b)) with | (_, S2) => if (r_m_kindOf S2 a) ≠ 0 then (match f_m_again a b S2 with | (_, S3) => (0, S3)) else (if b ≠ 2 then (if b = 4 then ((0, (xj_set (xj_set (xj_set (xj_set S2 61 (S2 32 39).toNatClampNeg a) 62 (S2 32 39).toNatClampNeg b) 63 (S2 32 39).toNatClampNeg 0) 32 39 ((S2 32 39) + 1)))) else (if b = 9 then ((0, (xj_set (xj_set (xj_set (xj_set S2 61 (S2 32 39).toNatClampNeg a) 62 (S2 32 39).toNatClampNeg b) 63 (S2 32 39).toNatClampNeg 0) 32 39 ((S2 32 39) + 1)))) else (if b = 5 then ((0, (xj_set (xj_set (xj_set (xj_set S2 61 (S2 32 39).toNatClampNeg a) 62 (S2 32 39).toNatClampNeg b) 63 (S2 32 39).toNatClampNeg 0) 32 39 ((S2 32 39) + 1)))) else (if b ≠ 6 then (match f_m_again a b S2 with | (_, S4) => (0, S4)) else ((0, (xj_set (xj_set (xj_set (xj_set S2 61 (S2 32 39).toNatClampNeg a) 62 (S2 32 39).toNatClampNeg b) 63 (S2 32 39).toNatClampNeg 0) 32 39 ((S2 32 39) + 1)))))))) else (fk_m_enter 200 a b 1 1 S2))) : Int32 × (Nat → Nat → Int32)) → P (.inl none) (SH, S9, T) 0 0 := h
    rw [← f1] at h
    refine xj_E.iast rfl rfl hd.1 ?_
    have hd := hd.2
    refine xj_E.adv 3 (pc' := 23) (ls' := [(0, .ref 32), (1, .int a), (2, .int b)]) (st' := [.int b, .int a, .ref 32]) (w' := (SH, (xj_set S1 47 a.toNatClampNeg w1), T)) rfl ?_
    refine xj_E.callv (d := D1) (S := SH) rfl rfl rfl rfl rfl (ok_m_mark (by omega) hd.1 ?_)
    intro v2 S2 e2
    refine ⟨_, _, rfl, rfl, rfl, rfl, ?_⟩
    have hd := hd.2
    generalize f_m_mark a b (xj_set S1 47 a.toNatClampNeg w1) = Xe2 at e2 hd h
    subst e2
    have h : ∀ v S9, (v, S9) = ((if (r_m_kindOf S2 a) ≠ 0 then (match f_m_again a b S2 with | (_, S3) => (0, S3)) else (if b ≠ 2 then (if b = 4 then ((0, (xj_set (xj_set (xj_set (xj_set S2 61 (S2 32 39).toNatClampNeg a) 62 (S2 32 39).toNatClampNeg b) 63 (S2 32 39).toNatClampNeg 0) 32 39 ((S2 32 39) + 1)))) else (if b = 9 then ((0, (xj_set (xj_set (xj_set (xj_set S2 61 (S2 32 39).toNatClampNeg a) 62 (S2 32 39).toNatClampNeg b) 63 (S2 32 39).toNatClampNeg 0) 32 39 ((S2 32 39) + 1)))) else (if b = 5 then ((0, (xj_set (xj_set (xj_set (xj_set S2 61 (S2 32 39).toNatClampNeg a) 62 (S2 32 39).toNatClampNeg b) 63 (S2 32 39).toNatClampNeg 0) 32 39 ((S2 32 39) + 1)))) else (if b ≠ 6 then (match f_m_again a b S2 with | (_, S4) => (0, S4)) else ((0, (xj_set (xj_set (xj_set (xj_set S2 61 (S2 32 39).toNatClampNeg a) 62 (S2 32 39).toNatClampNeg b) 63 (S2 32 39).toNatClampNeg 0) 32 39 ((S2 32 39) + 1)))))))) else (fk_m_enter 200 a b 1 1 S2))) : Int32 × (Nat → Nat → Int32)) → P (.inl none) (SH, S9, T) 0 0 := h
    refine xj_E.adv 2 (pc' := 28) (ls' := [(0, .ref 32), (1, .int a), (2, .int b)]) (st' := [.int a, .ref 32]) (w' := (SH, S2, T)) rfl ?_
    refine xj_E.calli (d := D1) (S := SH) rfl rfl rfl rfl rfl (xj_E.deep (ok_m_kindOf (d := 0) hd.1 ?_) (by omega))
    intro w2 f2
    refine ⟨_, _, _, rfl, rfl, rfl, rfl, ?_⟩
    have hd := hd.2
    rw [← f2] at hd
    have h : ∀ v S9, (v, S9) = ((if (r_m_kindOf S2 a) ≠ 0 then (match f_m_again a b S2 with | (_, S3) => (0, S3)) else (if b ≠ 2 then (if b = 4 then ((0, (xj_set (xj_set (xj_set (xj_set S2 61 (S2 32 39).toNatClampNeg a) 62 (S2 32 39).toNatClampNeg b) 63 (S2 32 39).toNatClampNeg 0) 32 39 ((S2 32 39) + 1)))) else (if b = 9 then ((0, (xj_set (xj_set (xj_set (xj_set S2 61 (S2 32 39).toNatClampNeg a) 62 (S2 32 39).toNatClampNeg b) 63 (S2 32 39).toNatClampNeg 0) 32 39 ((S2 32 39) + 1)))) else (if b = 5 then ((0, (xj_set (xj_set (xj_set (xj_set S2 61 (S2 32 39).toNatClampNeg a) 62 (S2 32 39).toNatClampNeg b) 63 (S2 32 39).toNatClampNeg 0) 32 39 ((S2 32 39) + 1)))) else (if b ≠ 6 then (match f_m_again a b S2 with | (_, S4) => (0, S4)) else ((0, (xj_set (xj_set (xj_set (xj_set S2 61 (S2 32 39).toNatClampNeg a) 62 (S2 32 39).toNatClampNeg b) 63 (S2 32 39).toNatClampNeg 0) 32 39 ((S2 32 39) + 1)))))))) else (fk_m_enter 200 a b 1 1 S2))) : Int32 × (Nat → Nat → Int32)) → P (.inl none) (SH, S9, T) 0 0 := h
    rw [← f2] at h
    refine xj_E.adv 1 (pc' := (if xj_cmp .ne w2 0 = true then 38 else 34)) (ls' := [(0, .ref 32), (1, .int a), (2, .int b)]) (st' := []) (w' := (SH, S2, T)) rfl ?_
    refine xj_E.b_ne (fun q => ?_) (fun q => ?_)
    · have hd := hd.1 q
      have h := fun v S9 e => h v S9 (Eq.trans e (if_pos q).symm)
      refine xj_E.adv 9 (pc' := 162) (ls' := [(3, .int 0), (0, .ref 32), (1, .int a), (2, .int b)]) (st' := [.int b, .int a, .ref 32]) (w' := (SH, S2, T)) rfl ?_
      refine xj_E.callv (d := D1) (S := SH) rfl rfl rfl rfl rfl (ok_m_again (by omega) hd.1 ?_)
      intro v3 S3 e3
      refine ⟨_, _, rfl, rfl, rfl, rfl, ?_⟩
      have hd := hd.2
      generalize f_m_again a b S2 = Xe3 at e3 hd h
      subst e3
      exact xj_E.ret rfl rfl rfl rfl (h _ _ rfl)
    · have hd := hd.2 q
      have h := fun v S9 e => h v S9 (Eq.trans e (if_neg q).symm)
      refine xj_E.adv 8 (pc' := (if xj_cmp .ne b 2 = true then 90 else 49)) (ls' := [(3, .int 1), (0, .ref 32), (1, .int a), (2, .int b)]) (st' := []) (w' := (SH, S2, T)) rfl ?_
      refine xj_E.b_ne (fun q => ?_) (fun q => ?_)
      · have hd := hd.1 q
        have h := fun v S9 e => h v S9 (Eq.trans e (if_pos q).symm)
        refine xj_E.adv 5 (pc' := (if xj_cmp .eq b 4 = true then 116 else 99)) (ls' := [(3, .int 1), (0, .ref 32), (1, .int a), (2, .int b)]) (st' := []) (w' := (SH, S2, T)) rfl ?_
        refine xj_E.b_eq (fun q => ?_) (fun q => ?_)
        · have hd := hd.1 q
          have h := fun v S9 e => h v S9 (Eq.trans e (if_pos q).symm)
          refine xj_E.adv 5 (pc' := 125) (ls' := [(3, .int 1), (0, .ref 32), (1, .int a), (2, .int b)]) (st' := [.int a, .int (S2 32 39), .ref 61]) (w' := (SH, S2, T)) rfl ?_
          refine xj_E.iast rfl rfl hd.1 ?_
          have hd := hd.2
          refine xj_E.adv 5 (pc' := 135) (ls' := [(3, .int 1), (0, .ref 32), (1, .int a), (2, .int b)]) (st' := [.int b, .int (S2 32 39), .ref 62]) (w' := (SH, (xj_set S2 61 (S2 32 39).toNatClampNeg a), T)) rfl ?_
          refine xj_E.iast rfl rfl hd.1 ?_
          have hd := hd.2
          refine xj_E.adv 5 (pc' := 145) (ls' := [(3, .int 1), (0, .ref 32), (1, .int a), (2, .int b)]) (st' := [.int 0, .int (S2 32 39), .ref 63]) (w' := (SH, (xj_set (xj_set S2 61 (S2 32 39).toNatClampNeg a) 62 (S2 32 39).toNatClampNeg b), T)) rfl ?_
          refine xj_E.iast rfl rfl hd.1 ?_
          have hd := hd.2
          refine xj_E.adv 7 (pc' := 165) (ls' := [(3, .int 1), (0, .ref 32), (1, .int a), (2, .int b)]) (st' := []) (w' := (SH, (xj_set (xj_set (xj_set (xj_set S2 61 (S2 32 39).toNatClampNeg a) 62 (S2 32 39).toNatClampNeg b) 63 (S2 32 39).toNatClampNeg 0) 32 39 ((S2 32 39) + 1)), T)) rfl ?_
          exact xj_E.ret rfl rfl rfl rfl (h _ _ rfl)
        · have hd := hd.2 q
          have h := fun v S9 e => h v S9 (Eq.trans e (if_neg q).symm)
          refine xj_E.adv 3 (pc' := (if xj_cmp .eq b 9 = true then 116 else 105)) (ls' := [(3, .int 1), (0, .ref 32), (1, .int a), (2, .int b)]) (st' := []) (w' := (SH, S2, T)) rfl ?_
          refine xj_E.b_eq (fun q => ?_) (fun q => ?_)
          · have hd := hd.1 q
            have h := fun v S9 e => h v S9 (Eq.trans e (if_pos q).symm)
            refine xj_E.adv 5 (pc' := 125) (ls' := [(3, .int 1), (0, .ref 32), (1, .int a), (2, .int b)]) (st' := [.int a, .int (S2 32 39), .ref 61]) (w' := (SH, S2, T)) rfl ?_
            refine xj_E.iast rfl rfl hd.1 ?_
            have hd := hd.2
            refine xj_E.adv 5 (pc' := 135) (ls' := [(3, .int 1), (0, .ref 32), (1, .int a), (2, .int b)]) (st' := [.int b, .int (S2 32 39), .ref 62]) (w' := (SH, (xj_set S2 61 (S2 32 39).toNatClampNeg a), T)) rfl ?_
            refine xj_E.iast rfl rfl hd.1 ?_
            have hd := hd.2
            refine xj_E.adv 5 (pc' := 145) (ls' := [(3, .int 1), (0, .ref 32), (1, .int a), (2, .int b)]) (st' := [.int 0, .int (S2 32 39), .ref 63]) (w' := (SH, (xj_set (xj_set S2 61 (S2 32 39).toNatClampNeg a) 62 (S2 32 39).toNatClampNeg b), T)) rfl ?_
            refine xj_E.iast rfl rfl hd.1 ?_
            have hd := hd.2
            refine xj_E.adv 7 (pc' := 165) (ls' := [(3, .int 1), (0, .ref 32), (1, .int a), (2, .int b)]) (st' := []) (w' := (SH, (xj_set (xj_set (xj_set (xj_set S2 61 (S2 32 39).toNatClampNeg a) 62 (S2 32 39).toNatClampNeg b) 63 (S2 32 39).toNatClampNeg 0) 32 39 ((S2 32 39) + 1)), T)) rfl ?_
            exact xj_E.ret rfl rfl rfl rfl (h _ _ rfl)
          · have hd := hd.2 q
            have h := fun v S9 e => h v S9 (Eq.trans e (if_neg q).symm)
            refine xj_E.adv 3 (pc' := (if xj_cmp .eq b 5 = true then 116 else 110)) (ls' := [(3, .int 1), (0, .ref 32), (1, .int a), (2, .int b)]) (st' := []) (w' := (SH, S2, T)) rfl ?_
            refine xj_E.b_eq (fun q => ?_) (fun q => ?_)
            · have hd := hd.1 q
              have h := fun v S9 e => h v S9 (Eq.trans e (if_pos q).symm)
              refine xj_E.adv 5 (pc' := 125) (ls' := [(3, .int 1), (0, .ref 32), (1, .int a), (2, .int b)]) (st' := [.int a, .int (S2 32 39), .ref 61]) (w' := (SH, S2, T)) rfl ?_
              refine xj_E.iast rfl rfl hd.1 ?_
              have hd := hd.2
              refine xj_E.adv 5 (pc' := 135) (ls' := [(3, .int 1), (0, .ref 32), (1, .int a), (2, .int b)]) (st' := [.int b, .int (S2 32 39), .ref 62]) (w' := (SH, (xj_set S2 61 (S2 32 39).toNatClampNeg a), T)) rfl ?_
              refine xj_E.iast rfl rfl hd.1 ?_
              have hd := hd.2
              refine xj_E.adv 5 (pc' := 145) (ls' := [(3, .int 1), (0, .ref 32), (1, .int a), (2, .int b)]) (st' := [.int 0, .int (S2 32 39), .ref 63]) (w' := (SH, (xj_set (xj_set S2 61 (S2 32 39).toNatClampNeg a) 62 (S2 32 39).toNatClampNeg b), T)) rfl ?_
              refine xj_E.iast rfl rfl hd.1 ?_
              have hd := hd.2
              refine xj_E.adv 7 (pc' := 165) (ls' := [(3, .int 1), (0, .ref 32), (1, .int a), (2, .int b)]) (st' := []) (w' := (SH, (xj_set (xj_set (xj_set (xj_set S2 61 (S2 32 39).toNatClampNeg a) 62 (S2 32 39).toNatClampNeg b) 63 (S2 32 39).toNatClampNeg 0) 32 39 ((S2 32 39) + 1)), T)) rfl ?_
              exact xj_E.ret rfl rfl rfl rfl (h _ _ rfl)
            · have hd := hd.2 q
              have h := fun v S9 e => h v S9 (Eq.trans e (if_neg q).symm)
              refine xj_E.adv 3 (pc' := (if xj_cmp .ne b 6 = true then 159 else 116)) (ls' := [(3, .int 1), (0, .ref 32), (1, .int a), (2, .int b)]) (st' := []) (w' := (SH, S2, T)) rfl ?_
              refine xj_E.b_ne (fun q => ?_) (fun q => ?_)
              · have hd := hd.1 q
                have h := fun v S9 e => h v S9 (Eq.trans e (if_pos q).symm)
                refine xj_E.adv 3 (pc' := 162) (ls' := [(3, .int 1), (0, .ref 32), (1, .int a), (2, .int b)]) (st' := [.int b, .int a, .ref 32]) (w' := (SH, S2, T)) rfl ?_
                refine xj_E.callv (d := D1) (S := SH) rfl rfl rfl rfl rfl (ok_m_again (by omega) hd.1 ?_)
                intro v4 S4 e4
                refine ⟨_, _, rfl, rfl, rfl, rfl, ?_⟩
                have hd := hd.2
                generalize f_m_again a b S2 = Xe4 at e4 hd h
                subst e4
                exact xj_E.ret rfl rfl rfl rfl (h _ _ rfl)
              · have hd := hd.2 q
                have h := fun v S9 e => h v S9 (Eq.trans e (if_neg q).symm)
                refine xj_E.adv 5 (pc' := 125) (ls' := [(3, .int 1), (0, .ref 32), (1, .int a), (2, .int b)]) (st' := [.int a, .int (S2 32 39), .ref 61]) (w' := (SH, S2, T)) rfl ?_
                refine xj_E.iast rfl rfl hd.1 ?_
                have hd := hd.2
                refine xj_E.adv 5 (pc' := 135) (ls' := [(3, .int 1), (0, .ref 32), (1, .int a), (2, .int b)]) (st' := [.int b, .int (S2 32 39), .ref 62]) (w' := (SH, (xj_set S2 61 (S2 32 39).toNatClampNeg a), T)) rfl ?_
                refine xj_E.iast rfl rfl hd.1 ?_
                have hd := hd.2
                refine xj_E.adv 5 (pc' := 145) (ls' := [(3, .int 1), (0, .ref 32), (1, .int a), (2, .int b)]) (st' := [.int 0, .int (S2 32 39), .ref 63]) (w' := (SH, (xj_set (xj_set S2 61 (S2 32 39).toNatClampNeg a) 62 (S2 32 39).toNatClampNeg b), T)) rfl ?_
                refine xj_E.iast rfl rfl hd.1 ?_
                have hd := hd.2
                refine xj_E.adv 7 (pc' := 165) (ls' := [(3, .int 1), (0, .ref 32), (1, .int a), (2, .int b)]) (st' := []) (w' := (SH, (xj_set (xj_set (xj_set (xj_set S2 61 (S2 32 39).toNatClampNeg a) 62 (S2 32 39).toNatClampNeg b) 63 (S2 32 39).toNatClampNeg 0) 32 39 ((S2 32 39) + 1)), T)) rfl ?_
                exact xj_E.ret rfl rfl rfl rfl (h _ _ rfl)
      · have hd := hd.2 q
        have h := fun v S9 e => h v S9 (Eq.trans e (if_neg q).symm)
        refine xj_E.adv 2 (pc' := 52) (ls' := [(4, .int 1), (3, .int 1), (0, .ref 32), (1, .int a), (2, .int b)]) (st' := []) (w' := (SH, S2, T)) rfl ?_
        refine xj_E.loc [0, 1, 2, 3, 4] xhth rfl (show xj_E (xX L xs) (D1 + 1) 85 52 [(0, .ref 32), (1, .int a), (2, .int b), (3, .int 1), (4, .int 1)] [] (SH, S2, T) P from ?_)
        exact ((okk_m_enter 200)) _ _ _ _ _ _ _ (by omega) hd h
  · have hd := hd.2 q
    have h := fun v S9 e => h v S9 (Eq.trans e (if_neg q).symm)
    exact xj_E.ret rfl rfl rfl rfl (h _ _ rfl)
