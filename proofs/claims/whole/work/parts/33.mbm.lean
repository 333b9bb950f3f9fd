/-! a method that stores: our machine does so -/
seal f_l_copyFrom14 d_l_copyFrom14 f_l_copyFrom23 d_l_copyFrom23 f_l_add d_l_add f_l_note d_l_note f_p_addItem d_p_addItem f_p_addSentry d_p_addSentry f_p_addPart d_p_addPart f_p_putIfPart d_p_putIfPart f_c_openCommand d_c_openCommand f_c_mark d_c_mark f_m_fail d_m_fail f_m_item d_m_item f_m_sentry d_m_sentry f_m_on d_m_on f_m_when d_m_when f_m_book d_m_book f_m_mark d_m_mark f_m_create d_m_create f_m_again d_m_again f_m_keep d_m_keep f_m_putBack d_m_putBack f_m_can d_m_can f_m_markVariable d_m_markVariable f_m_value d_m_value f_m_instances d_m_instances f_m_instance d_m_instance f_m_marked d_m_marked f_m_moves d_m_moves f_m_history d_m_history f_c_markSiblings d_c_markSiblings f_c_markAll d_c_markAll f_m_enter d_m_enter f_m_make d_m_make f_m_letIn d_m_letIn f_m_workOff d_m_workOff f_m_finish d_m_finish f_m_begin d_m_begin f_m_move d_m_move f_m_set d_m_set f_c_create d_c_create f_c_make d_c_make f_c_moveWhatIsIn d_c_moveWhatIsIn f_c_createWhatIsIn d_c_createWhatIsIn f_c_exitChildren d_c_exitChildren f_c_moveChildren d_c_moveChildren f_c_repeat d_c_repeat f_c_letIn d_c_letIn f_c_item d_c_item f_c_sentry d_c_sentry f_c_on d_c_on f_c_when d_c_when f_c_workOff d_c_workOff f_c_begin d_c_begin f_c_move d_c_move f_c_set d_c_set r_f_floorMod d_f_floorMod r_l_hasBegun d_l_hasBegun r_l_has d_l_has r_l_isFinal d_l_isFinal r_l_isWaiting d_l_isWaiting r_p_partBit d_p_partBit r_p_hasItem d_p_hasItem r_p_isStage d_p_isStage r_p_hasFlag d_p_hasFlag r_p_hasEntry d_p_hasEntry r_p_mayHaveSentry d_p_mayHaveSentry r_p_hasSentry d_p_hasSentry r_p_hasAllParts d_p_hasAllParts r_p_partsHearing d_p_partsHearing r_p_ifPartHolds d_p_ifPartHolds r_c_instances d_c_instances r_c_instance d_c_instance r_c_marked d_c_marked r_c_moves d_c_moves r_c_history d_c_history r_c_isVariable d_c_isVariable r_c_isCommandMove d_c_isCommandMove r_c_parentLets d_c_parentLets r_c_isSettled d_c_isSettled r_c_hasWaitingChild d_c_hasWaitingChild r_m_thrown d_m_thrown r_m_within d_m_within r_m_isSentry d_m_isSentry r_m_isFinal d_m_isFinal r_m_kindOf d_m_kindOf r_m_hasFlag d_m_hasFlag r_m_hasEntry d_m_hasEntry r_m_parentActive d_m_parentActive r_m_target d_m_target r_m_follows d_m_follows r_m_satisfied d_m_satisfied r_m_someSatisfied d_m_someSatisfied r_m_settled d_m_settled r_m_done d_m_done r_m_toExit d_m_toExit r_m_toLetIn d_m_toLetIn r_m_toComplete d_m_toComplete r_m_allowed d_m_allowed r_m_refusal d_m_refusal r_p_mayHear d_p_mayHear r_p_isSatisfied d_p_isSatisfied r_c_value d_c_value r_c_stateAndKindFit d_c_stateAndKindFit r_c_hasSatisfied d_c_hasSatisfied r_c_isDone d_c_isDone r_c_mayBeMoved d_c_mayBeMoved r_c_lowestToExit d_c_lowestToExit r_c_lowestToEnter d_c_lowestToEnter r_c_lowestToComplete d_c_lowestToComplete r_c_can d_c_can
set_option maxHeartbeats 4000000 in
set_option maxRecDepth 100000 in
theorem okk_m_enter {L : Nat} {xs : Nat → Int32} {T : Nat → Nat → Int64} (n : Nat) : (∀ (u1 : Int32) (u2 : Int32) (u3 : Int32) (u4 : Int32) S D (P : (Option Value ⊕ Nat) → xj_W → Nat → Nat → Prop), 4 ≤ D → dk_m_enter n u1 u2 u3 u4 S → (∀ v S9, (v, S9) = fk_m_enter n u1 u2 u3 u4 S → P (.inl none) (SH, S9, T) 0 0) → xj_E (xX L xs) D 85 52 [(0, .ref 32), (1, .int u1), (2, .int u2), (3, .int u3), (4, .int u4)] [] (SH, S, T) P) := by
  induction n with
  | zero => exact fun _ _ _ _ _ _ _ _ hd _ => hd.elim
  | succ n ih =>
    refine ?_
    · intro u1 u2 u3 u4 S D P hD hd h
      have h : ∀ v S9, (v, S9) = ((if (S 32 1) ≤ u4 then (if u3 = 0 then (match f_m_again u1 u2 S with | (_, S1) => (0, S1)) else (if u2 = 4 then ((0, (xj_set (xj_set (xj_set (xj_set S 61 (S 32 39).toNatClampNeg u1) 62 (S 32 39).toNatClampNeg u2) 63 (S 32 39).toNatClampNeg 0) 32 39 ((S 32 39) + 1)))) else (if u2 = 9 then ((0, (xj_set (xj_set (xj_set (xj_set S 61 (S 32 39).toNatClampNeg u1) 62 (S 32 39).toNatClampNeg u2) 63 (S 32 39).toNatClampNeg 0) 32 39 ((S 32 39) + 1)))) else (if u2 = 5 then ((0, (xj_set (xj_set (xj_set (xj_set S 61 (S 32 39).toNatClampNeg u1) 62 (S 32 39).toNatClampNeg u2) 63 (S 32 39).toNatClampNeg 0) 32 39 ((S 32 39) + 1)))) else (if u2 ≠ 6 then (match f_m_again u1 u2 S with | (_, S2) => (0, S2)) else ((0, (xj_set (xj_set (xj_set (xj_set S 61 (S 32 39).toNatClampNeg u1) 62 (S 32 39).toNatClampNeg u2) 63 (S 32 39).toNatClampNeg 0) 32 39 ((S 32 39) + 1))))))))) else (if (S 34 u4.toNatClampNeg) ≠ (S 45 u1.toNatClampNeg) then (fk_m_enter n u1 u2 u3 (u4 + 1) S) else (match f_m_create u4 u1 S with | (_, S3) => fk_m_enter n u1 u2 u3 (u4 + 1) S3))) : Int32 × (Nat → Nat → Int32)) → P (.inl none) (SH, S9, T) 0 0 := h
      obtain ⟨D1, rfl⟩ : ∃ D1, D = D1 + 1 := ⟨D - 1, by omega⟩
      refine xj_E.adv 4 (pc' := (if xj_cmp .ge u4 (S 32 1) = true then 90 else 61)) (ls' := [(0, .ref 32), (1, .int u1), (2, .int u2), (3, .int u3), (4, .int u4)]) (st' := []) (w' := (SH, S, T)) rfl ?_
      refine xj_E.b_ge (fun q => ?_) (fun q => ?_)
      · have hd := hd.1 q
        have h := fun v S9 e => h v S9 (Eq.trans e (if_pos q).symm)
        refine xj_E.adv 2 (pc' := (if xj_cmp .eq u3 0 = true then 159 else 94)) (ls' := [(0, .ref 32), (1, .int u1), (2, .int u2), (3, .int u3), (4, .int u4)]) (st' := []) (w' := (SH, S, T)) rfl ?_
        refine xj_E.b_eq (fun q => ?_) (fun q => ?_)
        · have hd := hd.1 q
          have h := fun v S9 e => h v S9 (Eq.trans e (if_pos q).symm)
          refine xj_E.adv 3 (pc' := 162) (ls' := [(0, .ref 32), (1, .int u1), (2, .int u2), (3, .int u3), (4, .int u4)]) (st' := [.int u2, .int u1, .ref 32]) (w' := (SH, S, T)) rfl ?_
          refine xj_E.callv (d := D1) (S := SH) rfl rfl rfl rfl rfl (ok_m_again (by omega) hd.1 ?_)
          intro v1 S1 e1
          refine ⟨_, _, rfl, rfl, rfl, rfl, ?_⟩
          have hd := hd.2
          generalize f_m_again u1 u2 S = Xe1 at e1 hd h
          subst e1
          exact xj_E.ret rfl rfl rfl rfl (h _ _ rfl)
        · have hd := hd.2 q
          have h := fun v S9 e => h v S9 (Eq.trans e (if_neg q).symm)
          refine xj_E.adv 3 (pc' := (if xj_cmp .eq u2 4 = true then 116 else 99)) (ls' := [(0, .ref 32), (1, .int u1), (2, .int u2), (3, .int u3), (4, .int u4)]) (st' := []) (w' := (SH, S, T)) rfl ?_
          refine xj_E.b_eq (fun q => ?_) (fun q => ?_)
          · have hd := hd.1 q
            have h := fun v S9 e => h v S9 (Eq.trans e (if_pos q).symm)
            refine xj_E.adv 5 (pc' := 125) (ls' := [(0, .ref 32), (1, .int u1), (2, .int u2), (3, .int u3), (4, .int u4)]) (st' := [.int u1, .int (S 32 39), .ref 61]) (w' := (SH, S, T)) rfl ?_
            refine xj_E.iast rfl rfl hd.1 ?_
            have hd := hd.2
            refine xj_E.adv 5 (pc' := 135) (ls' := [(0, .ref 32), (1, .int u1), (2, .int u2), (3, .int u3), (4, .int u4)]) (st' := [.int u2, .int (S 32 39), .ref 62]) (w' := (SH, (xj_set S 61 (S 32 39).toNatClampNeg u1), T)) rfl ?_
            refine xj_E.iast rfl rfl hd.1 ?_
            have hd := hd.2
            refine xj_E.adv 5 (pc' := 145) (ls' := [(0, .ref 32), (1, .int u1), (2, .int u2), (3, .int u3), (4, .int u4)]) (st' := [.int 0, .int (S 32 39), .ref 63]) (w' := (SH, (xj_set (xj_set S 61 (S 32 39).toNatClampNeg u1) 62 (S 32 39).toNatClampNeg u2), T)) rfl ?_
            refine xj_E.iast rfl rfl hd.1 ?_
            have hd := hd.2
            refine xj_E.adv 7 (pc' := 165) (ls' := [(0, .ref 32), (1, .int u1), (2, .int u2), (3, .int u3), (4, .int u4)]) (st' := []) (w' := (SH, (xj_set (xj_set (xj_set (xj_set S 61 (S 32 39).toNatClampNeg u1) 62 (S 32 39).toNatClampNeg u2) 63 (S 32 39).toNatClampNeg 0) 32 39 ((S 32 39) + 1)), T)) rfl ?_
            exact xj_E.ret rfl rfl rfl rfl (h _ _ rfl)
          · have hd := hd.2 q
            have h := fun v S9 e => h v S9 (Eq.trans e (if_neg q).symm)
            refine xj_E.adv 3 (pc' := (if xj_cmp .eq u2 9 = true then 116 else 105)) (ls' := [(0, .ref 32), (1, .int u1), (2, .int u2), (3, .int u3), (4, .int u4)]) (st' := []) (w' := (SH, S, T)) rfl ?_
            refine xj_E.b_eq (fun q => ?_) (fun q => ?_)
            · have hd := hd.1 q
              have h := fun v S9 e => h v S9 (Eq.trans e (if_pos q).symm)
              refine xj_E.adv 5 (pc' := 125) (ls' := [(0, .ref 32), (1, .int u1), (2, .int u2), (3, .int u3), (4, .int u4)]) (st' := [.int u1, .int (S 32 39), .ref 61]) (w' := (SH, S, T)) rfl ?_
              refine xj_E.iast rfl rfl hd.1 ?_
              have hd := hd.2
              refine xj_E.adv 5 (pc' := 135) (ls' := [(0, .ref 32), (1, .int u1), (2, .int u2), (3, .int u3), (4, .int u4)]) (st' := [.int u2, .int (S 32 39), .ref 62]) (w' := (SH, (xj_set S 61 (S 32 39).toNatClampNeg u1), T)) rfl ?_
              refine xj_E.iast rfl rfl hd.1 ?_
              have hd := hd.2
              refine xj_E.adv 5 (pc' := 145) (ls' := [(0, .ref 32), (1, .int u1), (2, .int u2), (3, .int u3), (4, .int u4)]) (st' := [.int 0, .int (S 32 39), .ref 63]) (w' := (SH, (xj_set (xj_set S 61 (S 32 39).toNatClampNeg u1) 62 (S 32 39).toNatClampNeg u2), T)) rfl ?_
              refine xj_E.iast rfl rfl hd.1 ?_
              have hd := hd.2
              refine xj_E.adv 7 (pc' := 165) (ls' := [(0, .ref 32), (1, .int u1), (2, .int u2), (3, .int u3), (4, .int u4)]) (st' := []) (w' := (SH, (xj_set (xj_set (xj_set (xj_set S 61 (S 32 39).toNatClampNeg u1) 62 (S 32 39).toNatClampNeg u2) 63 (S 32 39).toNatClampNeg 0) 32 39 ((S 32 39) + 1)), T)) rfl ?_
              exact xj_E.ret rfl rfl rfl rfl (h _ _ rfl)
            · have hd := hd.2 q
              have h := fun v S9 e => h v S9 (Eq.trans e (if_neg q).symm)
              refine xj_E.adv 3 (pc' := (if xj_cmp .eq u2 5 = true then 116 else 110)) (ls' := [(0, .ref 32), (1, .int u1), (2, .int u2), (3, .int u3), (4, .int u4)]) (st' := []) (w' := (SH, S, T)) rfl ?_
              refine xj_E.b_eq (fun q => ?_) (fun q => ?_)
              · have hd := hd.1 q
                have h := fun v S9 e => h v S9 (Eq.trans e (if_pos q).symm)
                refine xj_E.adv 5 (pc' := 125) (ls' := [(0, .ref 32), (1, .int u1), (2, .int u2), (3, .int u3), (4, .int u4)]) (st' := [.int u1, .int (S 32 39), .ref 61]) (w' := (SH, S, T)) rfl ?_
                refine xj_E.iast rfl rfl hd.1 ?_
                have hd := hd.2
                refine xj_E.adv 5 (pc' := 135) (ls' := [(0, .ref 32), (1, .int u1), (2, .int u2), (3, .int u3), (4, .int u4)]) (st' := [.int u2, .int (S 32 39), .ref 62]) (w' := (SH, (xj_set S 61 (S 32 39).toNatClampNeg u1), T)) rfl ?_
                refine xj_E.iast rfl rfl hd.1 ?_
                have hd := hd.2
                refine xj_E.adv 5 (pc' := 145) (ls' := [(0, .ref 32), (1, .int u1), (2, .int u2), (3, .int u3), (4, .int u4)]) (st' := [.int 0, .int (S 32 39), .ref 63]) (w' := (SH, (xj_set (xj_set S 61 (S 32 39).toNatClampNeg u1) 62 (S 32 39).toNatClampNeg u2), T)) rfl ?_
                refine xj_E.iast rfl rfl hd.1 ?_
                have hd := hd.2
                refine xj_E.adv 7 (pc' := 165) (ls' := [(0, .ref 32), (1, .int u1), (2, .int u2), (3, .int u3), (4, .int u4)]) (st' := []) (w' := (SH, (xj_set (xj_set (xj_set (xj_set S 61 (S 32 39).toNatClampNeg u1) 62 (S 32 39).toNatClampNeg u2) 63 (S 32 39).toNatClampNeg 0) 32 39 ((S 32 39) + 1)), T)) rfl ?_
                exact xj_E.ret rfl rfl rfl rfl (h _ _ rfl)
              · have hd := hd.2 q
                have h := fun v S9 e => h v S9 (Eq.trans e (if_neg q).symm)
                refine xj_E.adv 3 (pc' := (if xj_cmp .ne u2 6 = true then 159 else 116)) (ls' := [(0, .ref 32), (1, .int u1), (2, .int u2), (3, .int u3), (4, .int u4)]) (st' := []) (w' := (SH, S, T)) rfl ?_
                refine xj_E.b_ne (fun q => ?_) (fun q => ?_)
                · have hd := hd.1 q
                  have h := fun v S9 e => h v S9 (Eq.trans e (if_pos q).symm)
                  refine xj_E.adv 3 (pc' := 162) (ls' := [(0, .ref 32), (1, .int u1), (2, .int u2), (3, .int u3), (4, .int u4)]) (st' := [.int u2, .int u1, .ref 32]) (w' := (SH, S, T)) rfl ?_
                  refine xj_E.callv (d := D1) (S := SH) rfl rfl rfl rfl rfl (ok_m_again (by omega) hd.1 ?_)
                  intro v2 S2 e2
                  refine ⟨_, _, rfl, rfl, rfl, rfl, ?_⟩
                  have hd := hd.2
                  generalize f_m_again u1 u2 S = Xe2 at e2 hd h
                  subst e2
                  exact xj_E.ret rfl rfl rfl rfl (h _ _ rfl)
                · have hd := hd.2 q
                  have h := fun v S9 e => h v S9 (Eq.trans e (if_neg q).symm)
                  refine xj_E.adv 5 (pc' := 125) (ls' := [(0, .ref 32), (1, .int u1), (2, .int u2), (3, .int u3), (4, .int u4)]) (st' := [.int u1, .int (S 32 39), .ref 61]) (w' := (SH, S, T)) rfl ?_
                  refine xj_E.iast rfl rfl hd.1 ?_
                  have hd := hd.2
                  refine xj_E.adv 5 (pc' := 135) (ls' := [(0, .ref 32), (1, .int u1), (2, .int u2), (3, .int u3), (4, .int u4)]) (st' := [.int u2, .int (S 32 39), .ref 62]) (w' := (SH, (xj_set S 61 (S 32 39).toNatClampNeg u1), T)) rfl ?_
                  refine xj_E.iast rfl rfl hd.1 ?_
                  have hd := hd.2
                  refine xj_E.adv 5 (pc' := 145) (ls' := [(0, .ref 32), (1, .int u1), (2, .int u2), (3, .int u3), (4, .int u4)]) (st' := [.int 0, .int (S 32 39), .ref 63]) (w' := (SH, (xj_set (xj_set S 61 (S 32 39).toNatClampNeg u1) 62 (S 32 39).toNatClampNeg u2), T)) rfl ?_
                  refine xj_E.iast rfl rfl hd.1 ?_
                  have hd := hd.2
                  refine xj_E.adv 7 (pc' := 165) (ls' := [(0, .ref 32), (1, .int u1), (2, .int u2), (3, .int u3), (4, .int u4)]) (st' := []) (w' := (SH, (xj_set (xj_set (xj_set (xj_set S 61 (S 32 39).toNatClampNeg u1) 62 (S 32 39).toNatClampNeg u2) 63 (S 32 39).toNatClampNeg 0) 32 39 ((S 32 39) + 1)), T)) rfl ?_
                  exact xj_E.ret rfl rfl rfl rfl (h _ _ rfl)
      · have hd := hd.2 q
        have h := fun v S9 e => h v S9 (Eq.trans e (if_neg q).symm)
        refine xj_E.adv 3 (pc' := 67) (ls' := [(0, .ref 32), (1, .int u1), (2, .int u2), (3, .int u3), (4, .int u4)]) (st' := [.int u4, .ref 34]) (w' := (SH, S, T)) rfl ?_
        refine xj_E.iald rfl rfl hd.1 ?_
        have hd := hd.2
        refine xj_E.adv 3 (pc' := 73) (ls' := [(0, .ref 32), (1, .int u1), (2, .int u2), (3, .int u3), (4, .int u4)]) (st' := [.int u1, .ref 45, .int (S 34 u4.toNatClampNeg)]) (w' := (SH, S, T)) rfl ?_
        refine xj_E.iald rfl rfl hd.1 ?_
        have hd := hd.2
        refine xj_E.adv 1 (pc' := (if xj_cmp .ne (S 34 u4.toNatClampNeg) (S 45 u1.toNatClampNeg) = true then 84 else 77)) (ls' := [(0, .ref 32), (1, .int u1), (2, .int u2), (3, .int u3), (4, .int u4)]) (st' := []) (w' := (SH, S, T)) rfl ?_
        refine xj_E.b_ne (fun q => ?_) (fun q => ?_)
        · have hd := hd.1 q
          have h := fun v S9 e => h v S9 (Eq.trans e (if_pos q).symm)
          refine xj_E.adv 2 (pc' := 52) (ls' := [(4, .int (u4 + 1)), (0, .ref 32), (1, .int u1), (2, .int u2), (3, .int u3)]) (st' := []) (w' := (SH, S, T)) rfl ?_
          refine xj_E.loc [0, 1, 2, 3, 4] xhth rfl (show xj_E (xX L xs) (D1 + 1) 85 52 [(0, .ref 32), (1, .int u1), (2, .int u2), (3, .int u3), (4, .int (u4 + 1))] [] (SH, S, T) P from ?_)
          exact (ih) _ _ _ _ _ _ _ (by omega) hd h
        · have hd := hd.2 q
          have h := fun v S9 e => h v S9 (Eq.trans e (if_neg q).symm)
          refine xj_E.adv 3 (pc' := 81) (ls' := [(0, .ref 32), (1, .int u1), (2, .int u2), (3, .int u3), (4, .int u4)]) (st' := [.int u1, .int u4, .ref 32]) (w' := (SH, S, T)) rfl ?_
          refine xj_E.callv (d := D1) (S := SH) rfl rfl rfl rfl rfl (ok_m_create (by omega) hd.1 ?_)
          intro v3 S3 e3
          refine ⟨_, _, rfl, rfl, rfl, rfl, ?_⟩
          have hd := hd.2
          generalize f_m_create u4 u1 S = Xe3 at e3 hd h
          subst e3
          refine xj_E.adv 2 (pc' := 52) (ls' := [(4, .int (u4 + 1)), (0, .ref 32), (1, .int u1), (2, .int u2), (3, .int u3)]) (st' := []) (w' := (SH, S3, T)) rfl ?_
          refine xj_E.loc [0, 1, 2, 3, 4] xhth rfl (show xj_E (xX L xs) (D1 + 1) 85 52 [(0, .ref 32), (1, .int u1), (2, .int u2), (3, .int u3), (4, .int (u4 + 1))] [] (SH, S3, T) P from ?_)
          exact (ih) _ _ _ _ _ _ _ (by omega) hd h
