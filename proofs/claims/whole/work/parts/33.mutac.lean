/-! methods that store: our machine does so -/
seal f_l_copyFrom14 d_l_copyFrom14 f_l_copyFrom23 d_l_copyFrom23 f_l_add d_l_add f_l_note d_l_note f_p_addItem d_p_addItem f_p_addSentry d_p_addSentry f_p_addPart d_p_addPart f_p_putIfPart d_p_putIfPart f_c_openCommand d_c_openCommand f_c_mark d_c_mark f_m_fail d_m_fail f_m_item d_m_item f_m_sentry d_m_sentry f_m_on d_m_on f_m_when d_m_when f_m_book d_m_book f_m_mark d_m_mark f_m_create d_m_create f_m_again d_m_again f_m_keep d_m_keep f_m_putBack d_m_putBack f_m_can d_m_can f_m_markVariable d_m_markVariable f_m_value d_m_value f_m_instances d_m_instances f_m_instance d_m_instance f_m_marked d_m_marked f_m_moves d_m_moves f_m_history d_m_history f_c_markSiblings d_c_markSiblings f_c_markAll d_c_markAll f_m_enter d_m_enter f_m_make d_m_make f_m_letIn d_m_letIn f_m_workOff d_m_workOff f_m_finish d_m_finish f_m_begin d_m_begin f_m_move d_m_move f_m_set d_m_set f_c_create d_c_create f_c_make d_c_make f_c_moveWhatIsIn d_c_moveWhatIsIn f_c_createWhatIsIn d_c_createWhatIsIn f_c_exitChildren d_c_exitChildren f_c_moveChildren d_c_moveChildren f_c_repeat d_c_repeat f_c_letIn d_c_letIn f_c_item d_c_item f_c_sentry d_c_sentry f_c_on d_c_on f_c_when d_c_when f_c_workOff d_c_workOff f_c_begin d_c_begin f_c_move d_c_move f_c_set d_c_set
set_option maxHeartbeats 4000000 in
set_option maxRecDepth 100000 in
theorem okk_m_mark {L : Nat} {xs : Nat → Int32} {T : Nat → Nat → Int64} (n : Nat) : (∀ (u1 : Int32) (u2 : Int32) (u3 : Int32) S D (P : (Option Value ⊕ Nat) → xj_W → Nat → Nat → Prop), 1 ≤ D → (dk_m_mark n).1 u1 u2 u3 S → (∀ v S9, (v, S9) = (fk_m_mark n).1 u1 u2 u3 S → P (.inl none) (SH, S9, T) 0 0) → xj_E (xX L xs) D 82 2 [(0, .ref 32), (1, .int u1), (2, .int u2), (3, .int u3)] [] (SH, S, T) P) ∧
    (∀ (u1 : Int32) (u2 : Int32) (u3 : Int32) (u4 : Int32) S D (P : (Option Value ⊕ Nat) → xj_W → Nat → Nat → Prop), 1 ≤ D → (dk_m_mark n).2.1 u1 u2 u3 u4 S → (∀ v S9, (v, S9) = (fk_m_mark n).2.1 u1 u2 u3 u4 S → P (.inl none) (SH, S9, T) 0 0) → xj_E (xX L xs) D 82 44 [(0, .ref 32), (1, .int u1), (2, .int u2), (3, .int u3), (4, .int u4)] [] (SH, S, T) P) ∧
    (∀ (u1 : Int32) (u2 : Int32) (u3 : Int32) (u4 : Int32) (u5 : Int32) S D (P : (Option Value ⊕ Nat) → xj_W → Nat → Nat → Prop), 1 ≤ D → (dk_m_mark n).2.2 u1 u2 u3 u4 u5 S → (∀ v S9, (v, S9) = (fk_m_mark n).2.2 u1 u2 u3 u4 u5 S → P (.inl none) (SH, S9, T) 0 0) → xj_E (xX L xs) D 82 75 [(0, .ref 32), (1, .int u1), (2, .int u2), (3, .int u3), (4, .int u4), (5, .int u5)] [] (SH, S, T) P) := by
  induction n with
  | zero => exact ⟨fun _ _ _ _ _ _ _ hd _ => hd.elim, fun _ _ _ _ _ _ _ _ hd _ => hd.elim, fun _ _ _ _ _ _ _ _ _ hd _ => hd.elim⟩
  | succ n ih =>
    refine ⟨?_, ?_, ?_⟩
    · intro u1 u2 u3 S D P hD hd h
      obtain ⟨D1, rfl⟩ : ∃ D1, D = D1 + 1 := ⟨D - 1, by omega⟩
      refine xj_E.adv 4 (pc' := (if xj_cmp .ge u3 (S 32 17) = true then 158 else 10)) (ls' := [(0, .ref 32), (1, .int u1), (2, .int u2), (3, .int u3)]) (st' := []) (w' := (SH, S, T)) rfl ?_
      refine xj_E.b_ge (fun q => ?_) (fun q => ?_)
      · have hd := hd.1 q
        have h := fun v S9 e => h v S9 (Eq.trans e (if_pos q).symm)
        exact xj_E.ret rfl rfl rfl rfl (h _ _ rfl)
      · have hd := hd.2 q
        have h := fun v S9 e => h v S9 (Eq.trans e (if_neg q).symm)
        refine xj_E.adv 3 (pc' := (if xj_cmp .eq u3 u1 = true then 152 else 15)) (ls' := [(0, .ref 32), (1, .int u1), (2, .int u2), (3, .int u3)]) (st' := []) (w' := (SH, S, T)) rfl ?_
        refine xj_E.b_eq (fun q => ?_) (fun q => ?_)
        · have hd := hd.1 q
          have h := fun v S9 e => h v S9 (Eq.trans e (if_pos q).symm)
          refine xj_E.adv 2 (pc' := 2) (ls' := [(3, .int (u3 + 1)), (0, .ref 32), (1, .int u1), (2, .int u2)]) (st' := []) (w' := (SH, S, T)) rfl ?_
          refine xj_E.loc [0, 1, 2, 3] xhth rfl (show xj_E (xX L xs) (D1 + 1) 82 2 [(0, .ref 32), (1, .int u1), (2, .int u2), (3, .int (u3 + 1))] [] (SH, S, T) P from ?_)
          exact (ih.1) _ _ _ _ _ _ (by omega) hd h
        · have hd := hd.2 q
          have h := fun v S9 e => h v S9 (Eq.trans e (if_neg q).symm)
          refine xj_E.adv 3 (pc' := 20) (ls' := [(0, .ref 32), (1, .int u1), (2, .int u2), (3, .int u3)]) (st' := [.int u3, .ref 46]) (w' := (SH, S, T)) rfl ?_
          refine xj_E.iald rfl rfl hd.1 ?_
          have hd := hd.2
          refine xj_E.adv 3 (pc' := 26) (ls' := [(0, .ref 32), (1, .int u1), (2, .int u2), (3, .int u3)]) (st' := [.int u1, .ref 46, .int (S 46 u3.toNatClampNeg)]) (w' := (SH, S, T)) rfl ?_
          refine xj_E.iald rfl rfl hd.1 ?_
          have hd := hd.2
          refine xj_E.adv 1 (pc' := (if xj_cmp .ne (S 46 u3.toNatClampNeg) (S 46 u1.toNatClampNeg) = true then 152 else 30)) (ls' := [(0, .ref 32), (1, .int u1), (2, .int u2), (3, .int u3)]) (st' := []) (w' := (SH, S, T)) rfl ?_
          refine xj_E.b_ne (fun q => ?_) (fun q => ?_)
          · have hd := hd.1 q
            have h := fun v S9 e => h v S9 (Eq.trans e (if_pos q).symm)
            refine xj_E.adv 2 (pc' := 2) (ls' := [(3, .int (u3 + 1)), (0, .ref 32), (1, .int u1), (2, .int u2)]) (st' := []) (w' := (SH, S, T)) rfl ?_
            refine xj_E.loc [0, 1, 2, 3] xhth rfl (show xj_E (xX L xs) (D1 + 1) 82 2 [(0, .ref 32), (1, .int u1), (2, .int u2), (3, .int (u3 + 1))] [] (SH, S, T) P from ?_)
            exact (ih.1) _ _ _ _ _ _ (by omega) hd h
          · have hd := hd.2 q
            have h := fun v S9 e => h v S9 (Eq.trans e (if_neg q).symm)
            refine xj_E.adv 2 (pc' := 32) (ls' := [(0, .ref 32), (1, .int u1), (2, .int u2), (3, .int u3)]) (st' := [.int u3, .ref 32]) (w' := (SH, S, T)) rfl ?_
            refine xj_E.calli (d := D1) (S := SH) rfl rfl rfl rfl rfl (xj_E.deep (ok_m_isFinal (d := 0) hd.1 ?_) (by omega))
            intro v e
            subst e
            refine ⟨_, _, _, rfl, rfl, rfl, rfl, ?_⟩
            have hd := hd.2
            refine xj_E.adv 1 (pc' := (if xj_cmp .eq (r_m_isFinal S u3) 0 = true then 41 else 38)) (ls' := [(0, .ref 32), (1, .int u1), (2, .int u2), (3, .int u3)]) (st' := []) (w' := (SH, S, T)) rfl ?_
            refine xj_E.b_eq (fun q => ?_) (fun q => ?_)
            · have hd := hd.1 q
              have h := fun v S9 e => h v S9 (Eq.trans e (if_pos q).symm)
              refine xj_E.adv 2 (pc' := 44) (ls' := [(4, .int 0), (0, .ref 32), (1, .int u1), (2, .int u2), (3, .int u3)]) (st' := []) (w' := (SH, S, T)) rfl ?_
              refine xj_E.loc [0, 1, 2, 3, 4] xhth rfl (show xj_E (xX L xs) (D1 + 1) 82 44 [(0, .ref 32), (1, .int u1), (2, .int u2), (3, .int u3), (4, .int 0)] [] (SH, S, T) P from ?_)
              exact (ih.2.1) _ _ _ _ _ _ _ (by omega) hd h
            · have hd := hd.2 q
              have h := fun v S9 e => h v S9 (Eq.trans e (if_neg q).symm)
              refine xj_E.adv 3 (pc' := 2) (ls' := [(3, .int (u3 + 1)), (0, .ref 32), (1, .int u1), (2, .int u2)]) (st' := []) (w' := (SH, S, T)) rfl ?_
              refine xj_E.loc [0, 1, 2, 3] xhth rfl (show xj_E (xX L xs) (D1 + 1) 82 2 [(0, .ref 32), (1, .int u1), (2, .int u2), (3, .int (u3 + 1))] [] (SH, S, T) P from ?_)
              exact (ih.1) _ _ _ _ _ _ (by omega) hd h
    · intro u1 u2 u3 u4 S D P hD hd h
      refine xj_E.adv 4 (pc' := (if xj_cmp .ge u4 (S 32 5) = true then 152 else 53)) (ls' := [(0, .ref 32), (1, .int u1), (2, .int u2), (3, .int u3), (4, .int u4)]) (st' := []) (w' := (SH, S, T)) rfl ?_
      refine xj_E.b_ge (fun q => ?_) (fun q => ?_)
      · have hd := hd.1 q
        have h := fun v S9 e => h v S9 (Eq.trans e (if_pos q).symm)
        refine xj_E.adv 2 (pc' := 2) (ls' := [(3, .int (u3 + 1)), (0, .ref 32), (1, .int u1), (2, .int u2), (4, .int u4)]) (st' := []) (w' := (SH, S, T)) rfl ?_
        refine xj_E.loc [0, 1, 2, 3] xhth rfl (show xj_E (xX L xs) D 82 2 [(0, .ref 32), (1, .int u1), (2, .int u2), (3, .int (u3 + 1))] [] (SH, S, T) P from ?_)
        exact (ih.1) _ _ _ _ _ _ (by omega) hd h
      · have hd := hd.2 q
        have h := fun v S9 e => h v S9 (Eq.trans e (if_neg q).symm)
        refine xj_E.adv 3 (pc' := 59) (ls' := [(0, .ref 32), (1, .int u1), (2, .int u2), (3, .int u3), (4, .int u4)]) (st' := [.int u4, .ref 36]) (w' := (SH, S, T)) rfl ?_
        refine xj_E.iald rfl rfl hd.1 ?_
        have hd := hd.2
        refine xj_E.adv 3 (pc' := 65) (ls' := [(0, .ref 32), (1, .int u1), (2, .int u2), (3, .int u3), (4, .int u4)]) (st' := [.int u3, .ref 45, .int (S 36 u4.toNatClampNeg)]) (w' := (SH, S, T)) rfl ?_
        refine xj_E.iald rfl rfl hd.1 ?_
        have hd := hd.2
        refine xj_E.adv 1 (pc' := (if xj_cmp .eq (S 36 u4.toNatClampNeg) (S 45 u3.toNatClampNeg) = true then 72 else 69)) (ls' := [(0, .ref 32), (1, .int u1), (2, .int u2), (3, .int u3), (4, .int u4)]) (st' := []) (w' := (SH, S, T)) rfl ?_
        refine xj_E.b_eq (fun q => ?_) (fun q => ?_)
        · have hd := hd.1 q
          have h := fun v S9 e => h v S9 (Eq.trans e (if_pos q).symm)
          refine xj_E.adv 2 (pc' := 75) (ls' := [(5, .int 0), (0, .ref 32), (1, .int u1), (2, .int u2), (3, .int u3), (4, .int u4)]) (st' := []) (w' := (SH, S, T)) rfl ?_
          refine xj_E.loc [0, 1, 2, 3, 4, 5] xhth rfl (show xj_E (xX L xs) D 82 75 [(0, .ref 32), (1, .int u1), (2, .int u2), (3, .int u3), (4, .int u4), (5, .int 0)] [] (SH, S, T) P from ?_)
          exact (ih.2.2) _ _ _ _ _ _ _ _ (by omega) hd h
        · have hd := hd.2 q
          have h := fun v S9 e => h v S9 (Eq.trans e (if_neg q).symm)
          refine xj_E.adv 3 (pc' := 44) (ls' := [(4, .int (u4 + 1)), (0, .ref 32), (1, .int u1), (2, .int u2), (3, .int u3)]) (st' := []) (w' := (SH, S, T)) rfl ?_
          refine xj_E.loc [0, 1, 2, 3, 4] xhth rfl (show xj_E (xX L xs) D 82 44 [(0, .ref 32), (1, .int u1), (2, .int u2), (3, .int u3), (4, .int (u4 + 1))] [] (SH, S, T) P from ?_)
          exact (ih.2.1) _ _ _ _ _ _ _ (by omega) hd h
    · intro u1 u2 u3 u4 u5 S D P hD hd h
      refine xj_E.adv 4 (pc' := 83) (ls' := [(0, .ref 32), (1, .int u1), (2, .int u2), (3, .int u3), (4, .int u4), (5, .int u5)]) (st' := [.int u4, .ref 38, .int u5]) (w' := (SH, S, T)) rfl ?_
      refine xj_E.iald rfl rfl hd.1 ?_
      have hd := hd.2
      refine xj_E.adv 1 (pc' := (if xj_cmp .ge u5 (S 38 u4.toNatClampNeg) = true then 146 else 87)) (ls' := [(0, .ref 32), (1, .int u1), (2, .int u2), (3, .int u3), (4, .int u4), (5, .int u5)]) (st' := []) (w' := (SH, S, T)) rfl ?_
      refine xj_E.b_ge (fun q => ?_) (fun q => ?_)
      · have hd := hd.1 q
        have h := fun v S9 e => h v S9 (Eq.trans e (if_pos q).symm)
        refine xj_E.adv 2 (pc' := 44) (ls' := [(4, .int (u4 + 1)), (0, .ref 32), (1, .int u1), (2, .int u2), (3, .int u3), (5, .int u5)]) (st' := []) (w' := (SH, S, T)) rfl ?_
        refine xj_E.loc [0, 1, 2, 3, 4] xhth rfl (show xj_E (xX L xs) D 82 44 [(0, .ref 32), (1, .int u1), (2, .int u2), (3, .int u3), (4, .int (u4 + 1))] [] (SH, S, T) P from ?_)
        exact (ih.2.1) _ _ _ _ _ _ _ (by omega) hd h
      · have hd := hd.2 q
        have h := fun v S9 e => h v S9 (Eq.trans e (if_neg q).symm)
        refine xj_E.adv 9 (pc' := 102) (ls' := [(6, .int ((2 * u4) + u5)), (0, .ref 32), (1, .int u1), (2, .int u2), (3, .int u3), (4, .int u4), (5, .int u5)]) (st' := [.int ((2 * u4) + u5), .ref 39]) (w' := (SH, S, T)) rfl ?_
        refine xj_E.iald rfl rfl hd.1 ?_
        have hd := hd.2
        refine xj_E.adv 3 (pc' := 108) (ls' := [(6, .int ((2 * u4) + u5)), (0, .ref 32), (1, .int u1), (2, .int u2), (3, .int u3), (4, .int u4), (5, .int u5)]) (st' := [.int u1, .ref 45, .int (S 39 ((2 * u4) + u5).toNatClampNeg)]) (w' := (SH, S, T)) rfl ?_
        refine xj_E.iald rfl rfl hd.1 ?_
        have hd := hd.2
        refine xj_E.adv 1 (pc' := (if xj_cmp .ne (S 39 ((2 * u4) + u5).toNatClampNeg) (S 45 u1.toNatClampNeg) = true then 140 else 112)) (ls' := [(6, .int ((2 * u4) + u5)), (0, .ref 32), (1, .int u1), (2, .int u2), (3, .int u3), (4, .int u4), (5, .int u5)]) (st' := []) (w' := (SH, S, T)) rfl ?_
        refine xj_E.b_ne (fun q => ?_) (fun q => ?_)
        · have hd := hd.1 q
          have h := fun v S9 e => h v S9 (Eq.trans e (if_pos q).symm)
          refine xj_E.adv 2 (pc' := 75) (ls' := [(5, .int (u5 + 1)), (6, .int ((2 * u4) + u5)), (0, .ref 32), (1, .int u1), (2, .int u2), (3, .int u3), (4, .int u4)]) (st' := []) (w' := (SH, S, T)) rfl ?_
          refine xj_E.loc [0, 1, 2, 3, 4, 5] xhth rfl (show xj_E (xX L xs) D 82 75 [(0, .ref 32), (1, .int u1), (2, .int u2), (3, .int u3), (4, .int u4), (5, .int (u5 + 1))] [] (SH, S, T) P from ?_)
          exact (ih.2.2) _ _ _ _ _ _ _ _ (by omega) hd h
        · have hd := hd.2 q
          have h := fun v S9 e => h v S9 (Eq.trans e (if_neg q).symm)
          refine xj_E.adv 3 (pc' := 118) (ls' := [(6, .int ((2 * u4) + u5)), (0, .ref 32), (1, .int u1), (2, .int u2), (3, .int u3), (4, .int u4), (5, .int u5)]) (st' := [.int ((2 * u4) + u5), .ref 40]) (w' := (SH, S, T)) rfl ?_
          refine xj_E.iald rfl rfl hd.1 ?_
          have hd := hd.2
          refine xj_E.adv 2 (pc' := (if xj_cmp .ne (S 40 ((2 * u4) + u5).toNatClampNeg) u2 = true then 140 else 123)) (ls' := [(6, .int ((2 * u4) + u5)), (0, .ref 32), (1, .int u1), (2, .int u2), (3, .int u3), (4, .int u4), (5, .int u5)]) (st' := []) (w' := (SH, S, T)) rfl ?_
          refine xj_E.b_ne (fun q => ?_) (fun q => ?_)
          · have hd := hd.1 q
            have h := fun v S9 e => h v S9 (Eq.trans e (if_pos q).symm)
            refine xj_E.adv 2 (pc' := 75) (ls' := [(5, .int (u5 + 1)), (6, .int ((2 * u4) + u5)), (0, .ref 32), (1, .int u1), (2, .int u2), (3, .int u3), (4, .int u4)]) (st' := []) (w' := (SH, S, T)) rfl ?_
            refine xj_E.loc [0, 1, 2, 3, 4, 5] xhth rfl (show xj_E (xX L xs) D 82 75 [(0, .ref 32), (1, .int u1), (2, .int u2), (3, .int u3), (4, .int u4), (5, .int (u5 + 1))] [] (SH, S, T) P from ?_)
            exact (ih.2.2) _ _ _ _ _ _ _ _ (by omega) hd h
          · have hd := hd.2 q
            have h := fun v S9 e => h v S9 (Eq.trans e (if_neg q).symm)
            refine xj_E.adv 6 (pc' := 133) (ls' := [(6, .int ((2 * u4) + u5)), (0, .ref 32), (1, .int u1), (2, .int u2), (3, .int u3), (4, .int u4), (5, .int u5)]) (st' := [.int u3, .ref 49, .int u3, .ref 49]) (w' := (SH, S, T)) rfl ?_
            refine xj_E.iald rfl rfl hd.1 ?_
            have hd := hd.2
            refine xj_E.adv 4 (pc' := 139) (ls' := [(6, .int ((2 * u4) + u5)), (0, .ref 32), (1, .int u1), (2, .int u2), (3, .int u3), (4, .int u4), (5, .int u5)]) (st' := [.int ((S 49 u3.toNatClampNeg) ||| (1 <<< (((2 * u4) + u5) &&& 31))), .int u3, .ref 49]) (w' := (SH, S, T)) rfl ?_
            refine xj_E.iast rfl rfl hd.1 ?_
            have hd := hd.2
            refine xj_E.adv 2 (pc' := 75) (ls' := [(5, .int (u5 + 1)), (6, .int ((2 * u4) + u5)), (0, .ref 32), (1, .int u1), (2, .int u2), (3, .int u3), (4, .int u4)]) (st' := []) (w' := (SH, (xj_set S 49 u3.toNatClampNeg ((S 49 u3.toNatClampNeg) ||| (1 <<< (((2 * u4) + u5) &&& 31)))), T)) rfl ?_
            refine xj_E.loc [0, 1, 2, 3, 4, 5] xhth rfl (show xj_E (xX L xs) D 82 75 [(0, .ref 32), (1, .int u1), (2, .int u2), (3, .int u3), (4, .int u4), (5, .int (u5 + 1))] [] (SH, (xj_set S 49 u3.toNatClampNeg ((S 49 u3.toNatClampNeg) ||| (1 <<< (((2 * u4) + u5) &&& 31)))), T) P from ?_)
            exact (ih.2.2) _ _ _ _ _ _ _ _ (by omega) hd h
set_option maxHeartbeats 4000000 in
set_option maxRecDepth 100000 in
theorem ok_m_mark {L : Nat} {xs : Nat → Int32} {T : Nat → Nat → Int64} {D : Nat} {S : (Nat → Nat → Int32)} {P : (Option Value ⊕ Nat) → xj_W → Nat → Nat → Prop} {a b : Int32} (hD : 1 ≤ D) (hd : d_m_mark a b S) (h : ∀ v S9, (v, S9) = f_m_mark a b S → P (.inl none) (SH, S9, T) 0 0) : xj_E (xX L xs) D 82 0 [(0, .ref 32), (1, .int a), (2, .int b)] [] (SH, S, T) P := by
  unfold d_m_mark at hd
  unfold f_m_mark at h
  refine xj_E.adv 2 (pc' := 2) (ls' := [(3, .int 0), (0, .ref 32), (1, .int a), (2, .int b)]) (st' := []) (w' := (SH, S, T)) rfl ?_
  refine xj_E.loc [0, 1, 2, 3] xhth rfl (show xj_E (xX L xs) D 82 2 [(0, .ref 32), (1, .int a), (2, .int b), (3, .int 0)] [] (SH, S, T) P from ?_)
  exact ((okk_m_mark 4000).1) _ _ _ _ _ _ (by omega) hd h
set_option maxHeartbeats 4000000 in
set_option maxRecDepth 100000 in
theorem ok_m_create {L : Nat} {xs : Nat → Int32} {T : Nat → Nat → Int64} {D : Nat} {S : (Nat → Nat → Int32)} {P : (Option Value ⊕ Nat) → xj_W → Nat → Nat → Prop} {a b : Int32} (hD : 2 ≤ D) (hd : d_m_create a b S) (h : ∀ v S9, (v, S9) = f_m_create a b S → P (.inl none) (SH, S9, T) 0 0) : xj_E (xX L xs) D 83 0 [(0, .ref 32), (1, .int a), (2, .int b)] [] (SH, S, T) P := by
  unfold d_m_create at hd
  unfold f_m_create at h
  obtain ⟨D1, rfl⟩ : ∃ D1, D = D1 + 1 := ⟨D - 1, by omega⟩
  refine xj_E.adv 3 (pc' := (if xj_cmp .eq (S 32 38) 0 = true then 8 else 7)) (ls' := [(0, .ref 32), (1, .int a), (2, .int b)]) (st' := []) (w' := (SH, S, T)) rfl ?_
  refine xj_E.b_eq (fun q => ?_) (fun q => ?_)
  · have hd := hd.1 q
    have h := fun v S9 e => h v S9 (Eq.trans e (if_pos q).symm)
    refine xj_E.adv 4 (pc' := (if xj_cmp .ne (S 32 17) 40 = true then 23 else 17)) (ls' := [(0, .ref 32), (1, .int a), (2, .int b)]) (st' := []) (w' := (SH, S, T)) rfl ?_
    refine xj_E.b_ne (fun q => ?_) (fun q => ?_)
    · have hd := hd.1 q
      have h := fun v S9 e => h v S9 (Eq.trans e (if_pos q).symm)
      refine xj_E.adv 7 (pc' := 34) (ls' := [(3, .int (S 32 17)), (0, .ref 32), (1, .int a), (2, .int b)]) (st' := [.int 0, .int (S 32 17), .ref 48]) (w' := (SH, S, T)) rfl ?_
      refine xj_E.iast rfl rfl hd.1 ?_
      have hd := hd.2
      refine xj_E.adv 3 (pc' := 38) (ls' := [(3, .int (S 32 17)), (0, .ref 32), (1, .int a), (2, .int b)]) (st' := [.int 0, .int (S 32 17), .ref 32]) (w' := (SH, (xj_set S 48 (S 32 17).toNatClampNeg 0), T)) rfl ?_
      refine xj_E.calli (d := D1) (S := SH) rfl rfl rfl rfl rfl (ok_m_book (by omega) hd.1 ?_)
      intro v1 S1 e1
      refine ⟨_, _, _, rfl, rfl, rfl, rfl, ?_⟩
      have hd := hd.2
      rw [← e1] at hd h
      refine xj_E.adv 1 (pc' := (if xj_cmp .ne v1 0 = true then 45 else 44)) (ls' := [(3, .int (S 32 17)), (0, .ref 32), (1, .int a), (2, .int b)]) (st' := []) (w' := (SH, S1, T)) rfl ?_
      refine xj_E.b_ne (fun q => ?_) (fun q => ?_)
      · have hd := hd.1 q
        have h := fun v S9 e => h v S9 (Eq.trans e (if_pos q).symm)
        refine xj_E.adv 10 (pc' := 61) (ls' := [(3, .int (S 32 17)), (0, .ref 32), (1, .int a), (2, .int b)]) (st' := [.int a, .int (S 32 17), .ref 45]) (w' := (SH, (xj_set S1 32 17 ((S1 32 17) + 1)), T)) rfl ?_
        refine xj_E.iast rfl rfl hd.1 ?_
        have hd := hd.2
        refine xj_E.adv 4 (pc' := 68) (ls' := [(3, .int (S 32 17)), (0, .ref 32), (1, .int a), (2, .int b)]) (st' := [.int b, .int (S 32 17), .ref 46]) (w' := (SH, (xj_set (xj_set S1 32 17 ((S1 32 17) + 1)) 45 (S 32 17).toNatClampNeg a), T)) rfl ?_
        refine xj_E.iast rfl rfl hd.1 ?_
        have hd := hd.2
        refine xj_E.adv 4 (pc' := 75) (ls' := [(3, .int (S 32 17)), (0, .ref 32), (1, .int a), (2, .int b)]) (st' := [.int 0, .int (S 32 17), .ref 47]) (w' := (SH, (xj_set (xj_set (xj_set S1 32 17 ((S1 32 17) + 1)) 45 (S 32 17).toNatClampNeg a) 46 (S 32 17).toNatClampNeg b), T)) rfl ?_
        refine xj_E.iast rfl rfl hd.1 ?_
        have hd := hd.2
        refine xj_E.adv 4 (pc' := 82) (ls' := [(3, .int (S 32 17)), (0, .ref 32), (1, .int a), (2, .int b)]) (st' := [.int 0, .int (S 32 17), .ref 49]) (w' := (SH, (xj_set (xj_set (xj_set (xj_set S1 32 17 ((S1 32 17) + 1)) 45 (S 32 17).toNatClampNeg a) 46 (S 32 17).toNatClampNeg b) 47 (S 32 17).toNatClampNeg 0), T)) rfl ?_
        refine xj_E.iast rfl rfl hd.1 ?_
        have hd := hd.2
        refine xj_E.adv 3 (pc' := 86) (ls' := [(3, .int (S 32 17)), (0, .ref 32), (1, .int a), (2, .int b)]) (st' := [.int 0, .int (S 32 17), .ref 32]) (w' := (SH, (xj_set (xj_set (xj_set (xj_set (xj_set S1 32 17 ((S1 32 17) + 1)) 45 (S 32 17).toNatClampNeg a) 46 (S 32 17).toNatClampNeg b) 47 (S 32 17).toNatClampNeg 0) 49 (S 32 17).toNatClampNeg 0), T)) rfl ?_
        refine xj_E.callv (d := D1) (S := SH) rfl rfl rfl rfl rfl (ok_m_mark (by omega) hd.1 ?_)
        intro v2 S2 e2
        refine ⟨_, _, rfl, rfl, rfl, rfl, ?_⟩
        have hd := hd.2
        rw [← e2] at hd h
        exact xj_E.ret rfl rfl rfl rfl (h _ _ rfl)
      · have hd := hd.2 q
        have h := fun v S9 e => h v S9 (Eq.trans e (if_neg q).symm)
        exact xj_E.ret rfl rfl rfl rfl (h _ _ rfl)
    · have hd := hd.2 q
      have h := fun v S9 e => h v S9 (Eq.trans e (if_neg q).symm)
      refine xj_E.adv 3 (pc' := 22) (ls' := [(0, .ref 32), (1, .int a), (2, .int b)]) (st' := []) (w' := (SH, (xj_set S 32 38 1), T)) rfl ?_
      exact xj_E.ret rfl rfl rfl rfl (h _ _ rfl)
  · have hd := hd.2 q
    have h := fun v S9 e => h v S9 (Eq.trans e (if_neg q).symm)
    exact xj_E.ret rfl rfl rfl rfl (h _ _ rfl)
set_option maxHeartbeats 4000000 in
set_option maxRecDepth 100000 in
theorem ok_m_again {L : Nat} {xs : Nat → Int32} {T : Nat → Nat → Int64} {D : Nat} {S : (Nat → Nat → Int32)} {P : (Option Value ⊕ Nat) → xj_W → Nat → Nat → Prop} {a b : Int32} (hD : 3 ≤ D) (hd : d_m_again a b S) (h : ∀ v S9, (v, S9) = f_m_again a b S → P (.inl none) (SH, S9, T) 0 0) : xj_E (xX L xs) D 86 0 [(0, .ref 32), (1, .int a), (2, .int b)] [] (SH, S, T) P := by
  unfold d_m_again at hd
  unfold f_m_again at h
  obtain ⟨D1, rfl⟩ : ∃ D1, D = D1 + 1 := ⟨D - 1, by omega⟩
  refine xj_E.adv 3 (pc' := (if xj_cmp .eq b 3 = true then 10 else 5)) (ls' := [(0, .ref 32), (1, .int a), (2, .int b)]) (st' := []) (w' := (SH, S, T)) rfl ?_
  refine xj_E.b_eq (fun q => ?_) (fun q => ?_)
  · have hd := hd.1 q
    have h := fun v S9 e => h v S9 (Eq.trans e (if_pos q).symm)
    refine xj_E.adv 3 (pc' := 13) (ls' := [(0, .ref 32), (1, .int a), (2, .int b)]) (st' := [.int 1, .int a, .ref 32]) (w' := (SH, S, T)) rfl ?_
    refine xj_E.calli (d := D1) (S := SH) rfl rfl rfl rfl rfl (xj_E.deep (ok_m_hasFlag (d := 0) hd.1 ?_) (by omega))
    intro v e
    subst e
    refine ⟨_, _, _, rfl, rfl, rfl, rfl, ?_⟩
    have hd := hd.2
    refine xj_E.adv 1 (pc' := (if xj_cmp .eq (r_m_hasFlag S a 1) 0 = true then 51 else 19)) (ls' := [(0, .ref 32), (1, .int a), (2, .int b)]) (st' := []) (w' := (SH, S, T)) rfl ?_
    refine xj_E.b_eq (fun q => ?_) (fun q => ?_)
    · have hd := hd.1 q
      have h := fun v S9 e => h v S9 (Eq.trans e (if_pos q).symm)
      exact xj_E.ret rfl rfl rfl rfl (h _ _ rfl)
    · have hd := hd.2 q
      have h := fun v S9 e => h v S9 (Eq.trans e (if_neg q).symm)
      refine xj_E.adv 2 (pc' := 21) (ls' := [(0, .ref 32), (1, .int a), (2, .int b)]) (st' := [.int a, .ref 32]) (w' := (SH, S, T)) rfl ?_
      refine xj_E.calli (d := D1) (S := SH) rfl rfl rfl rfl rfl (xj_E.deep (ok_m_hasEntry (d := 0) hd.1 ?_) (by omega))
      intro v e
      subst e
      refine ⟨_, _, _, rfl, rfl, rfl, rfl, ?_⟩
      have hd := hd.2
      refine xj_E.adv 1 (pc' := (if xj_cmp .ne (r_m_hasEntry S a) 0 = true then 51 else 27)) (ls' := [(0, .ref 32), (1, .int a), (2, .int b)]) (st' := []) (w' := (SH, S, T)) rfl ?_
      refine xj_E.b_ne (fun q => ?_) (fun q => ?_)
      · have hd := hd.1 q
        have h := fun v S9 e => h v S9 (Eq.trans e (if_pos q).symm)
        exact xj_E.ret rfl rfl rfl rfl (h _ _ rfl)
      · have hd := hd.2 q
        have h := fun v S9 e => h v S9 (Eq.trans e (if_neg q).symm)
        refine xj_E.adv 2 (pc' := 29) (ls' := [(0, .ref 32), (1, .int a), (2, .int b)]) (st' := [.int a, .ref 32]) (w' := (SH, S, T)) rfl ?_
        refine xj_E.calli (d := D1) (S := SH) rfl rfl rfl rfl rfl (xj_E.deep (ok_m_parentActive (d := 0) hd.1 ?_) (by omega))
        intro v e
        subst e
        refine ⟨_, _, _, rfl, rfl, rfl, rfl, ?_⟩
        have hd := hd.2
        refine xj_E.adv 1 (pc' := (if xj_cmp .eq (r_m_parentActive S a) 0 = true then 51 else 35)) (ls' := [(0, .ref 32), (1, .int a), (2, .int b)]) (st' := []) (w' := (SH, S, T)) rfl ?_
        refine xj_E.b_eq (fun q => ?_) (fun q => ?_)
        · have hd := hd.1 q
          have h := fun v S9 e => h v S9 (Eq.trans e (if_pos q).symm)
          exact xj_E.ret rfl rfl rfl rfl (h _ _ rfl)
        · have hd := hd.2 q
          have h := fun v S9 e => h v S9 (Eq.trans e (if_neg q).symm)
          refine xj_E.adv 4 (pc' := 41) (ls' := [(0, .ref 32), (1, .int a), (2, .int b)]) (st' := [.int a, .ref 45, .ref 32]) (w' := (SH, S, T)) rfl ?_
          refine xj_E.iald rfl rfl hd.1 ?_
          have hd := hd.2
          refine xj_E.adv 3 (pc' := 47) (ls' := [(0, .ref 32), (1, .int a), (2, .int b)]) (st' := [.int a, .ref 46, .int (S 45 a.toNatClampNeg), .ref 32]) (w' := (SH, S, T)) rfl ?_
          refine xj_E.iald rfl rfl hd.1 ?_
          have hd := hd.2
          refine xj_E.callv (d := D1) (S := SH) rfl rfl rfl rfl rfl (ok_m_create (by omega) hd.1 ?_)
          intro v1 S1 e1
          refine ⟨_, _, rfl, rfl, rfl, rfl, ?_⟩
          have hd := hd.2
          rw [← e1] at hd h
          exact xj_E.ret rfl rfl rfl rfl (h _ _ rfl)
  · have hd := hd.2 q
    have h := fun v S9 e => h v S9 (Eq.trans e (if_neg q).symm)
    refine xj_E.adv 3 (pc' := (if xj_cmp .ne b 4 = true then 51 else 10)) (ls' := [(0, .ref 32), (1, .int a), (2, .int b)]) (st' := []) (w' := (SH, S, T)) rfl ?_
    refine xj_E.b_ne (fun q => ?_) (fun q => ?_)
    · have hd := hd.1 q
      have h := fun v S9 e => h v S9 (Eq.trans e (if_pos q).symm)
      exact xj_E.ret rfl rfl rfl rfl (h _ _ rfl)
    · have hd := hd.2 q
      have h := fun v S9 e => h v S9 (Eq.trans e (if_neg q).symm)
      refine xj_E.adv 3 (pc' := 13) (ls' := [(0, .ref 32), (1, .int a), (2, .int b)]) (st' := [.int 1, .int a, .ref 32]) (w' := (SH, S, T)) rfl ?_
      refine xj_E.calli (d := D1) (S := SH) rfl rfl rfl rfl rfl (xj_E.deep (ok_m_hasFlag (d := 0) hd.1 ?_) (by omega))
      intro v e
      subst e
      refine ⟨_, _, _, rfl, rfl, rfl, rfl, ?_⟩
      have hd := hd.2
      refine xj_E.adv 1 (pc' := (if xj_cmp .eq (r_m_hasFlag S a 1) 0 = true then 51 else 19)) (ls' := [(0, .ref 32), (1, .int a), (2, .int b)]) (st' := []) (w' := (SH, S, T)) rfl ?_
      refine xj_E.b_eq (fun q => ?_) (fun q => ?_)
      · have hd := hd.1 q
        have h := fun v S9 e => h v S9 (Eq.trans e (if_pos q).symm)
        exact xj_E.ret rfl rfl rfl rfl (h _ _ rfl)
      · have hd := hd.2 q
        have h := fun v S9 e => h v S9 (Eq.trans e (if_neg q).symm)
        refine xj_E.adv 2 (pc' := 21) (ls' := [(0, .ref 32), (1, .int a), (2, .int b)]) (st' := [.int a, .ref 32]) (w' := (SH, S, T)) rfl ?_
        refine xj_E.calli (d := D1) (S := SH) rfl rfl rfl rfl rfl (xj_E.deep (ok_m_hasEntry (d := 0) hd.1 ?_) (by omega))
        intro v e
        subst e
        refine ⟨_, _, _, rfl, rfl, rfl, rfl, ?_⟩
        have hd := hd.2
        refine xj_E.adv 1 (pc' := (if xj_cmp .ne (r_m_hasEntry S a) 0 = true then 51 else 27)) (ls' := [(0, .ref 32), (1, .int a), (2, .int b)]) (st' := []) (w' := (SH, S, T)) rfl ?_
        refine xj_E.b_ne (fun q => ?_) (fun q => ?_)
        · have hd := hd.1 q
          have h := fun v S9 e => h v S9 (Eq.trans e (if_pos q).symm)
          exact xj_E.ret rfl rfl rfl rfl (h _ _ rfl)
        · have hd := hd.2 q
          have h := fun v S9 e => h v S9 (Eq.trans e (if_neg q).symm)
          refine xj_E.adv 2 (pc' := 29) (ls' := [(0, .ref 32), (1, .int a), (2, .int b)]) (st' := [.int a, .ref 32]) (w' := (SH, S, T)) rfl ?_
          refine xj_E.calli (d := D1) (S := SH) rfl rfl rfl rfl rfl (xj_E.deep (ok_m_parentActive (d := 0) hd.1 ?_) (by omega))
          intro v e
          subst e
          refine ⟨_, _, _, rfl, rfl, rfl, rfl, ?_⟩
          have hd := hd.2
          refine xj_E.adv 1 (pc' := (if xj_cmp .eq (r_m_parentActive S a) 0 = true then 51 else 35)) (ls' := [(0, .ref 32), (1, .int a), (2, .int b)]) (st' := []) (w' := (SH, S, T)) rfl ?_
          refine xj_E.b_eq (fun q => ?_) (fun q => ?_)
          · have hd := hd.1 q
            have h := fun v S9 e => h v S9 (Eq.trans e (if_pos q).symm)
            exact xj_E.ret rfl rfl rfl rfl (h _ _ rfl)
          · have hd := hd.2 q
            have h := fun v S9 e => h v S9 (Eq.trans e (if_neg q).symm)
            refine xj_E.adv 4 (pc' := 41) (ls' := [(0, .ref 32), (1, .int a), (2, .int b)]) (st' := [.int a, .ref 45, .ref 32]) (w' := (SH, S, T)) rfl ?_
            refine xj_E.iald rfl rfl hd.1 ?_
            have hd := hd.2
            refine xj_E.adv 3 (pc' := 47) (ls' := [(0, .ref 32), (1, .int a), (2, .int b)]) (st' := [.int a, .ref 46, .int (S 45 a.toNatClampNeg), .ref 32]) (w' := (SH, S, T)) rfl ?_
            refine xj_E.iald rfl rfl hd.1 ?_
            have hd := hd.2
            refine xj_E.callv (d := D1) (S := SH) rfl rfl rfl rfl rfl (ok_m_create (by omega) hd.1 ?_)
            intro v2 S2 e2
            refine ⟨_, _, rfl, rfl, rfl, rfl, ?_⟩
            have hd := hd.2
            rw [← e2] at hd h
            exact xj_E.ret rfl rfl rfl rfl (h _ _ rfl)
set_option maxHeartbeats 4000000 in
set_option maxRecDepth 100000 in
theorem okk_m_keep {L : Nat} {xs : Nat → Int32} {T : Nat → Nat → Int64} (n : Nat) : (∀ (u1 : Int32) S D (P : (Option Value ⊕ Nat) → xj_W → Nat → Nat → Prop), 0 ≤ D → (dk_m_keep n).1 u1 S → (∀ v S9, (v, S9) = (fk_m_keep n).1 u1 S → P (.inl none) (SH, S9, T) 0 0) → xj_E (xX L xs) D 98 18 [(0, .ref 32), (1, .int u1)] [] (SH, S, T) P) ∧
    (∀ (u1 : Int32) S D (P : (Option Value ⊕ Nat) → xj_W → Nat → Nat → Prop), 0 ≤ D → (dk_m_keep n).2.1 u1 S → (∀ v S9, (v, S9) = (fk_m_keep n).2.1 u1 S → P (.inl none) (SH, S9, T) 0 0) → xj_E (xX L xs) D 98 92 [(0, .ref 32), (1, .int u1)] [] (SH, S, T) P) ∧
    (∀ (u1 : Int32) S D (P : (Option Value ⊕ Nat) → xj_W → Nat → Nat → Prop), 0 ≤ D → (dk_m_keep n).2.2 u1 S → (∀ v S9, (v, S9) = (fk_m_keep n).2.2 u1 S → P (.inl none) (SH, S9, T) 0 0) → xj_E (xX L xs) D 98 117 [(0, .ref 32), (1, .int u1)] [] (SH, S, T) P) := by
  induction n with
  | zero => exact ⟨fun _ _ _ _ _ hd _ => hd.elim, fun _ _ _ _ _ hd _ => hd.elim, fun _ _ _ _ _ hd _ => hd.elim⟩
  | succ n ih =>
    refine ⟨?_, ?_, ?_⟩
    · intro u1 S D P hD hd h
      refine xj_E.adv 3 (pc' := (if xj_cmp .ge u1 40 = true then 90 else 24)) (ls' := [(0, .ref 32), (1, .int u1)]) (st' := []) (w' := (SH, S, T)) rfl ?_
      refine xj_E.b_ge (fun q => ?_) (fun q => ?_)
      · have hd := hd.1 q
        have h := fun v S9 e => h v S9 (Eq.trans e (if_pos q).symm)
        refine xj_E.adv 2 (pc' := 92) (ls' := [(1, .int 0), (0, .ref 32)]) (st' := []) (w' := (SH, S, T)) rfl ?_
        refine xj_E.loc [0, 1] xhth rfl (show xj_E (xX L xs) D 98 92 [(0, .ref 32), (1, .int 0)] [] (SH, S, T) P from ?_)
        exact (ih.2.1) _ _ _ _ (by omega) hd h
      · have hd := hd.2 q
        have h := fun v S9 e => h v S9 (Eq.trans e (if_neg q).symm)
        refine xj_E.adv 6 (pc' := 34) (ls' := [(0, .ref 32), (1, .int u1)]) (st' := [.int u1, .ref 45, .int u1, .ref 53]) (w' := (SH, S, T)) rfl ?_
        refine xj_E.iald rfl rfl hd.1 ?_
        have hd := hd.2
        refine xj_E.iast rfl rfl hd.1 ?_
        have hd := hd.2
        refine xj_E.adv 6 (pc' := 46) (ls' := [(0, .ref 32), (1, .int u1)]) (st' := [.int u1, .ref 46, .int u1, .ref 54]) (w' := (SH, (xj_set S 53 u1.toNatClampNeg (S 45 u1.toNatClampNeg)), T)) rfl ?_
        refine xj_E.iald rfl rfl hd.1 ?_
        have hd := hd.2
        refine xj_E.iast rfl rfl hd.1 ?_
        have hd := hd.2
        refine xj_E.adv 6 (pc' := 58) (ls' := [(0, .ref 32), (1, .int u1)]) (st' := [.int u1, .ref 47, .int u1, .ref 55]) (w' := (SH, (xj_set (xj_set S 53 u1.toNatClampNeg (S 45 u1.toNatClampNeg)) 54 u1.toNatClampNeg (S 46 u1.toNatClampNeg)), T)) rfl ?_
        refine xj_E.iald rfl rfl hd.1 ?_
        have hd := hd.2
        refine xj_E.iast rfl rfl hd.1 ?_
        have hd := hd.2
        refine xj_E.adv 6 (pc' := 70) (ls' := [(0, .ref 32), (1, .int u1)]) (st' := [.int u1, .ref 48, .int u1, .ref 56]) (w' := (SH, (xj_set (xj_set (xj_set S 53 u1.toNatClampNeg (S 45 u1.toNatClampNeg)) 54 u1.toNatClampNeg (S 46 u1.toNatClampNeg)) 55 u1.toNatClampNeg (S 47 u1.toNatClampNeg)), T)) rfl ?_
        refine xj_E.iald rfl rfl hd.1 ?_
        have hd := hd.2
        refine xj_E.iast rfl rfl hd.1 ?_
        have hd := hd.2
        refine xj_E.adv 6 (pc' := 82) (ls' := [(0, .ref 32), (1, .int u1)]) (st' := [.int u1, .ref 49, .int u1, .ref 57]) (w' := (SH, (xj_set (xj_set (xj_set (xj_set S 53 u1.toNatClampNeg (S 45 u1.toNatClampNeg)) 54 u1.toNatClampNeg (S 46 u1.toNatClampNeg)) 55 u1.toNatClampNeg (S 47 u1.toNatClampNeg)) 56 u1.toNatClampNeg (S 48 u1.toNatClampNeg)), T)) rfl ?_
        refine xj_E.iald rfl rfl hd.1 ?_
        have hd := hd.2
        refine xj_E.iast rfl rfl hd.1 ?_
        have hd := hd.2
        refine xj_E.adv 2 (pc' := 18) (ls' := [(1, .int (u1 + 1)), (0, .ref 32)]) (st' := []) (w' := (SH, (xj_set (xj_set (xj_set (xj_set (xj_set S 53 u1.toNatClampNeg (S 45 u1.toNatClampNeg)) 54 u1.toNatClampNeg (S 46 u1.toNatClampNeg)) 55 u1.toNatClampNeg (S 47 u1.toNatClampNeg)) 56 u1.toNatClampNeg (S 48 u1.toNatClampNeg)) 57 u1.toNatClampNeg (S 49 u1.toNatClampNeg)), T)) rfl ?_
        refine xj_E.loc [0, 1] xhth rfl (show xj_E (xX L xs) D 98 18 [(0, .ref 32), (1, .int (u1 + 1))] [] (SH, (xj_set (xj_set (xj_set (xj_set (xj_set S 53 u1.toNatClampNeg (S 45 u1.toNatClampNeg)) 54 u1.toNatClampNeg (S 46 u1.toNatClampNeg)) 55 u1.toNatClampNeg (S 47 u1.toNatClampNeg)) 56 u1.toNatClampNeg (S 48 u1.toNatClampNeg)) 57 u1.toNatClampNeg (S 49 u1.toNatClampNeg)), T) P from ?_)
        exact (ih.1) _ _ _ _ (by omega) hd h
    · intro u1 S D P hD hd h
      refine xj_E.adv 3 (pc' := (if xj_cmp .ge u1 4 = true then 115 else 97)) (ls' := [(0, .ref 32), (1, .int u1)]) (st' := []) (w' := (SH, S, T)) rfl ?_
      refine xj_E.b_ge (fun q => ?_) (fun q => ?_)
      · have hd := hd.1 q
        have h := fun v S9 e => h v S9 (Eq.trans e (if_pos q).symm)
        refine xj_E.adv 2 (pc' := 117) (ls' := [(1, .int 0), (0, .ref 32)]) (st' := []) (w' := (SH, S, T)) rfl ?_
        refine xj_E.loc [0, 1] xhth rfl (show xj_E (xX L xs) D 98 117 [(0, .ref 32), (1, .int 0)] [] (SH, S, T) P from ?_)
        exact (ih.2.2) _ _ _ _ (by omega) hd h
      · have hd := hd.2 q
        have h := fun v S9 e => h v S9 (Eq.trans e (if_neg q).symm)
        refine xj_E.adv 6 (pc' := 107) (ls' := [(0, .ref 32), (1, .int u1)]) (st' := [.int u1, .ref 50, .int u1, .ref 58]) (w' := (SH, S, T)) rfl ?_
        refine xj_E.iald rfl rfl hd.1 ?_
        have hd := hd.2
        refine xj_E.iast rfl rfl hd.1 ?_
        have hd := hd.2
        refine xj_E.adv 2 (pc' := 92) (ls' := [(1, .int (u1 + 1)), (0, .ref 32)]) (st' := []) (w' := (SH, (xj_set S 58 u1.toNatClampNeg (S 50 u1.toNatClampNeg)), T)) rfl ?_
        refine xj_E.loc [0, 1] xhth rfl (show xj_E (xX L xs) D 98 92 [(0, .ref 32), (1, .int (u1 + 1))] [] (SH, (xj_set S 58 u1.toNatClampNeg (S 50 u1.toNatClampNeg)), T) P from ?_)
        exact (ih.2.1) _ _ _ _ (by omega) hd h
    · intro u1 S D P hD hd h
      refine xj_E.adv 3 (pc' := (if xj_cmp .ge u1 48 = true then 153 else 123)) (ls' := [(0, .ref 32), (1, .int u1)]) (st' := []) (w' := (SH, S, T)) rfl ?_
      refine xj_E.b_ge (fun q => ?_) (fun q => ?_)
      · have hd := hd.1 q
        have h := fun v S9 e => h v S9 (Eq.trans e (if_pos q).symm)
        refine xj_E.adv 6 (pc' := 163) (ls' := [(0, .ref 32), (1, .int u1)]) (st' := []) (w' := (SH, (xj_set (xj_set S 32 37 0) 32 38 0), T)) rfl ?_
        exact xj_E.ret rfl rfl rfl rfl (h _ _ rfl)
      · have hd := hd.2 q
        have h := fun v S9 e => h v S9 (Eq.trans e (if_neg q).symm)
        refine xj_E.adv 6 (pc' := 133) (ls' := [(0, .ref 32), (1, .int u1)]) (st' := [.int u1, .ref 51, .int u1, .ref 59]) (w' := (SH, S, T)) rfl ?_
        refine xj_E.iald rfl rfl hd.1 ?_
        have hd := hd.2
        refine xj_E.iast rfl rfl hd.1 ?_
        have hd := hd.2
        refine xj_E.adv 6 (pc' := 145) (ls' := [(0, .ref 32), (1, .int u1)]) (st' := [.int u1, .ref 52, .int u1, .ref 60]) (w' := (SH, (xj_set S 59 u1.toNatClampNeg (S 51 u1.toNatClampNeg)), T)) rfl ?_
        refine xj_E.iald rfl rfl hd.1 ?_
        have hd := hd.2
        refine xj_E.iast rfl rfl hd.1 ?_
        have hd := hd.2
        refine xj_E.adv 2 (pc' := 117) (ls' := [(1, .int (u1 + 1)), (0, .ref 32)]) (st' := []) (w' := (SH, (xj_set (xj_set S 59 u1.toNatClampNeg (S 51 u1.toNatClampNeg)) 60 u1.toNatClampNeg (S 52 u1.toNatClampNeg)), T)) rfl ?_
        refine xj_E.loc [0, 1] xhth rfl (show xj_E (xX L xs) D 98 117 [(0, .ref 32), (1, .int (u1 + 1))] [] (SH, (xj_set (xj_set S 59 u1.toNatClampNeg (S 51 u1.toNatClampNeg)) 60 u1.toNatClampNeg (S 52 u1.toNatClampNeg)), T) P from ?_)
        exact (ih.2.2) _ _ _ _ (by omega) hd h
set_option maxHeartbeats 4000000 in
set_option maxRecDepth 100000 in
theorem ok_m_keep {L : Nat} {xs : Nat → Int32} {T : Nat → Nat → Int64} {D : Nat} {S : (Nat → Nat → Int32)} {P : (Option Value ⊕ Nat) → xj_W → Nat → Nat → Prop} (hD : 0 ≤ D) (hd : d_m_keep  S) (h : ∀ v S9, (v, S9) = f_m_keep  S → P (.inl none) (SH, S9, T) 0 0) : xj_E (xX L xs) D 98 0 [(0, .ref 32)] [] (SH, S, T) P := by
  unfold d_m_keep at hd
  unfold f_m_keep at h
  refine xj_E.adv 10 (pc' := 18) (ls' := [(1, .int 0), (0, .ref 32)]) (st' := []) (w' := (SH, (xj_set (xj_set S 32 27 (S 32 17)) 32 34 (S 32 24)), T)) rfl ?_
  refine xj_E.loc [0, 1] xhth rfl (show xj_E (xX L xs) D 98 18 [(0, .ref 32), (1, .int 0)] [] (SH, (xj_set (xj_set S 32 27 (S 32 17)) 32 34 (S 32 24)), T) P from ?_)
  exact ((okk_m_keep 200).1) _ _ _ _ (by omega) hd h
set_option maxHeartbeats 4000000 in
set_option maxRecDepth 100000 in
theorem okk_m_putBack {L : Nat} {xs : Nat → Int32} {T : Nat → Nat → Int64} (n : Nat) : (∀ (u1 : Int32) S D (P : (Option Value ⊕ Nat) → xj_W → Nat → Nat → Prop), 0 ≤ D → (dk_m_putBack n).1 u1 S → (∀ v S9, (v, S9) = (fk_m_putBack n).1 u1 S → P (.inl none) (SH, S9, T) 0 0) → xj_E (xX L xs) D 99 18 [(0, .ref 32), (1, .int u1)] [] (SH, S, T) P) ∧
    (∀ (u1 : Int32) S D (P : (Option Value ⊕ Nat) → xj_W → Nat → Nat → Prop), 0 ≤ D → (dk_m_putBack n).2.1 u1 S → (∀ v S9, (v, S9) = (fk_m_putBack n).2.1 u1 S → P (.inl none) (SH, S9, T) 0 0) → xj_E (xX L xs) D 99 92 [(0, .ref 32), (1, .int u1)] [] (SH, S, T) P) ∧
    (∀ (u1 : Int32) S D (P : (Option Value ⊕ Nat) → xj_W → Nat → Nat → Prop), 0 ≤ D → (dk_m_putBack n).2.2 u1 S → (∀ v S9, (v, S9) = (fk_m_putBack n).2.2 u1 S → P (.inl none) (SH, S9, T) 0 0) → xj_E (xX L xs) D 99 117 [(0, .ref 32), (1, .int u1)] [] (SH, S, T) P) := by
  induction n with
  | zero => exact ⟨fun _ _ _ _ _ hd _ => hd.elim, fun _ _ _ _ _ hd _ => hd.elim, fun _ _ _ _ _ hd _ => hd.elim⟩
  | succ n ih =>
    refine ⟨?_, ?_, ?_⟩
    · intro u1 S D P hD hd h
      refine xj_E.adv 3 (pc' := (if xj_cmp .ge u1 40 = true then 90 else 24)) (ls' := [(0, .ref 32), (1, .int u1)]) (st' := []) (w' := (SH, S, T)) rfl ?_
      refine xj_E.b_ge (fun q => ?_) (fun q => ?_)
      · have hd := hd.1 q
        have h := fun v S9 e => h v S9 (Eq.trans e (if_pos q).symm)
        refine xj_E.adv 2 (pc' := 92) (ls' := [(1, .int 0), (0, .ref 32)]) (st' := []) (w' := (SH, S, T)) rfl ?_
        refine xj_E.loc [0, 1] xhth rfl (show xj_E (xX L xs) D 99 92 [(0, .ref 32), (1, .int 0)] [] (SH, S, T) P from ?_)
        exact (ih.2.1) _ _ _ _ (by omega) hd h
      · have hd := hd.2 q
        have h := fun v S9 e => h v S9 (Eq.trans e (if_neg q).symm)
        refine xj_E.adv 6 (pc' := 34) (ls' := [(0, .ref 32), (1, .int u1)]) (st' := [.int u1, .ref 53, .int u1, .ref 45]) (w' := (SH, S, T)) rfl ?_
        refine xj_E.iald rfl rfl hd.1 ?_
        have hd := hd.2
        refine xj_E.iast rfl rfl hd.1 ?_
        have hd := hd.2
        refine xj_E.adv 6 (pc' := 46) (ls' := [(0, .ref 32), (1, .int u1)]) (st' := [.int u1, .ref 54, .int u1, .ref 46]) (w' := (SH, (xj_set S 45 u1.toNatClampNeg (S 53 u1.toNatClampNeg)), T)) rfl ?_
        refine xj_E.iald rfl rfl hd.1 ?_
        have hd := hd.2
        refine xj_E.iast rfl rfl hd.1 ?_
        have hd := hd.2
        refine xj_E.adv 6 (pc' := 58) (ls' := [(0, .ref 32), (1, .int u1)]) (st' := [.int u1, .ref 55, .int u1, .ref 47]) (w' := (SH, (xj_set (xj_set S 45 u1.toNatClampNeg (S 53 u1.toNatClampNeg)) 46 u1.toNatClampNeg (S 54 u1.toNatClampNeg)), T)) rfl ?_
        refine xj_E.iald rfl rfl hd.1 ?_
        have hd := hd.2
        refine xj_E.iast rfl rfl hd.1 ?_
        have hd := hd.2
        refine xj_E.adv 6 (pc' := 70) (ls' := [(0, .ref 32), (1, .int u1)]) (st' := [.int u1, .ref 56, .int u1, .ref 48]) (w' := (SH, (xj_set (xj_set (xj_set S 45 u1.toNatClampNeg (S 53 u1.toNatClampNeg)) 46 u1.toNatClampNeg (S 54 u1.toNatClampNeg)) 47 u1.toNatClampNeg (S 55 u1.toNatClampNeg)), T)) rfl ?_
        refine xj_E.iald rfl rfl hd.1 ?_
        have hd := hd.2
        refine xj_E.iast rfl rfl hd.1 ?_
        have hd := hd.2
        refine xj_E.adv 6 (pc' := 82) (ls' := [(0, .ref 32), (1, .int u1)]) (st' := [.int u1, .ref 57, .int u1, .ref 49]) (w' := (SH, (xj_set (xj_set (xj_set (xj_set S 45 u1.toNatClampNeg (S 53 u1.toNatClampNeg)) 46 u1.toNatClampNeg (S 54 u1.toNatClampNeg)) 47 u1.toNatClampNeg (S 55 u1.toNatClampNeg)) 48 u1.toNatClampNeg (S 56 u1.toNatClampNeg)), T)) rfl ?_
        refine xj_E.iald rfl rfl hd.1 ?_
        have hd := hd.2
        refine xj_E.iast rfl rfl hd.1 ?_
        have hd := hd.2
        refine xj_E.adv 2 (pc' := 18) (ls' := [(1, .int (u1 + 1)), (0, .ref 32)]) (st' := []) (w' := (SH, (xj_set (xj_set (xj_set (xj_set (xj_set S 45 u1.toNatClampNeg (S 53 u1.toNatClampNeg)) 46 u1.toNatClampNeg (S 54 u1.toNatClampNeg)) 47 u1.toNatClampNeg (S 55 u1.toNatClampNeg)) 48 u1.toNatClampNeg (S 56 u1.toNatClampNeg)) 49 u1.toNatClampNeg (S 57 u1.toNatClampNeg)), T)) rfl ?_
        refine xj_E.loc [0, 1] xhth rfl (show xj_E (xX L xs) D 99 18 [(0, .ref 32), (1, .int (u1 + 1))] [] (SH, (xj_set (xj_set (xj_set (xj_set (xj_set S 45 u1.toNatClampNeg (S 53 u1.toNatClampNeg)) 46 u1.toNatClampNeg (S 54 u1.toNatClampNeg)) 47 u1.toNatClampNeg (S 55 u1.toNatClampNeg)) 48 u1.toNatClampNeg (S 56 u1.toNatClampNeg)) 49 u1.toNatClampNeg (S 57 u1.toNatClampNeg)), T) P from ?_)
        exact (ih.1) _ _ _ _ (by omega) hd h
    · intro u1 S D P hD hd h
      refine xj_E.adv 3 (pc' := (if xj_cmp .ge u1 4 = true then 115 else 97)) (ls' := [(0, .ref 32), (1, .int u1)]) (st' := []) (w' := (SH, S, T)) rfl ?_
      refine xj_E.b_ge (fun q => ?_) (fun q => ?_)
      · have hd := hd.1 q
        have h := fun v S9 e => h v S9 (Eq.trans e (if_pos q).symm)
        refine xj_E.adv 2 (pc' := 117) (ls' := [(1, .int 0), (0, .ref 32)]) (st' := []) (w' := (SH, S, T)) rfl ?_
        refine xj_E.loc [0, 1] xhth rfl (show xj_E (xX L xs) D 99 117 [(0, .ref 32), (1, .int 0)] [] (SH, S, T) P from ?_)
        exact (ih.2.2) _ _ _ _ (by omega) hd h
      · have hd := hd.2 q
        have h := fun v S9 e => h v S9 (Eq.trans e (if_neg q).symm)
        refine xj_E.adv 6 (pc' := 107) (ls' := [(0, .ref 32), (1, .int u1)]) (st' := [.int u1, .ref 58, .int u1, .ref 50]) (w' := (SH, S, T)) rfl ?_
        refine xj_E.iald rfl rfl hd.1 ?_
        have hd := hd.2
        refine xj_E.iast rfl rfl hd.1 ?_
        have hd := hd.2
        refine xj_E.adv 2 (pc' := 92) (ls' := [(1, .int (u1 + 1)), (0, .ref 32)]) (st' := []) (w' := (SH, (xj_set S 50 u1.toNatClampNeg (S 58 u1.toNatClampNeg)), T)) rfl ?_
        refine xj_E.loc [0, 1] xhth rfl (show xj_E (xX L xs) D 99 92 [(0, .ref 32), (1, .int (u1 + 1))] [] (SH, (xj_set S 50 u1.toNatClampNeg (S 58 u1.toNatClampNeg)), T) P from ?_)
        exact (ih.2.1) _ _ _ _ (by omega) hd h
    · intro u1 S D P hD hd h
      refine xj_E.adv 3 (pc' := (if xj_cmp .ge u1 48 = true then 153 else 123)) (ls' := [(0, .ref 32), (1, .int u1)]) (st' := []) (w' := (SH, S, T)) rfl ?_
      refine xj_E.b_ge (fun q => ?_) (fun q => ?_)
      · have hd := hd.1 q
        have h := fun v S9 e => h v S9 (Eq.trans e (if_pos q).symm)
        exact xj_E.ret rfl rfl rfl rfl (h _ _ rfl)
      · have hd := hd.2 q
        have h := fun v S9 e => h v S9 (Eq.trans e (if_neg q).symm)
        refine xj_E.adv 6 (pc' := 133) (ls' := [(0, .ref 32), (1, .int u1)]) (st' := [.int u1, .ref 59, .int u1, .ref 51]) (w' := (SH, S, T)) rfl ?_
        refine xj_E.iald rfl rfl hd.1 ?_
        have hd := hd.2
        refine xj_E.iast rfl rfl hd.1 ?_
        have hd := hd.2
        refine xj_E.adv 6 (pc' := 145) (ls' := [(0, .ref 32), (1, .int u1)]) (st' := [.int u1, .ref 60, .int u1, .ref 52]) (w' := (SH, (xj_set S 51 u1.toNatClampNeg (S 59 u1.toNatClampNeg)), T)) rfl ?_
        refine xj_E.iald rfl rfl hd.1 ?_
        have hd := hd.2
        refine xj_E.iast rfl rfl hd.1 ?_
        have hd := hd.2
        refine xj_E.adv 2 (pc' := 117) (ls' := [(1, .int (u1 + 1)), (0, .ref 32)]) (st' := []) (w' := (SH, (xj_set (xj_set S 51 u1.toNatClampNeg (S 59 u1.toNatClampNeg)) 52 u1.toNatClampNeg (S 60 u1.toNatClampNeg)), T)) rfl ?_
        refine xj_E.loc [0, 1] xhth rfl (show xj_E (xX L xs) D 99 117 [(0, .ref 32), (1, .int (u1 + 1))] [] (SH, (xj_set (xj_set S 51 u1.toNatClampNeg (S 59 u1.toNatClampNeg)) 52 u1.toNatClampNeg (S 60 u1.toNatClampNeg)), T) P from ?_)
        exact (ih.2.2) _ _ _ _ (by omega) hd h
set_option maxHeartbeats 4000000 in
set_option maxRecDepth 100000 in
theorem ok_m_putBack {L : Nat} {xs : Nat → Int32} {T : Nat → Nat → Int64} {D : Nat} {S : (Nat → Nat → Int32)} {P : (Option Value ⊕ Nat) → xj_W → Nat → Nat → Prop} (hD : 0 ≤ D) (hd : d_m_putBack  S) (h : ∀ v S9, (v, S9) = f_m_putBack  S → P (.inl none) (SH, S9, T) 0 0) : xj_E (xX L xs) D 99 0 [(0, .ref 32)] [] (SH, S, T) P := by
  unfold d_m_putBack at hd
  unfold f_m_putBack at h
  refine xj_E.adv 10 (pc' := 18) (ls' := [(1, .int 0), (0, .ref 32)]) (st' := []) (w' := (SH, (xj_set (xj_set S 32 17 (S 32 27)) 32 24 (S 32 34)), T)) rfl ?_
  refine xj_E.loc [0, 1] xhth rfl (show xj_E (xX L xs) D 99 18 [(0, .ref 32), (1, .int 0)] [] (SH, (xj_set (xj_set S 32 17 (S 32 27)) 32 24 (S 32 34)), T) P from ?_)
  exact ((okk_m_putBack 200).1) _ _ _ _ (by omega) hd h
set_option maxHeartbeats 4000000 in
set_option maxRecDepth 100000 in
theorem ok_m_can {L : Nat} {xs : Nat → Int32} {T : Nat → Nat → Int64} {D : Nat} {S : (Nat → Nat → Int32)} {P : (Option Value ⊕ Nat) → xj_W → Nat → Nat → Prop} {a b : Int32} (hD : 4 ≤ D) (hd : d_m_can a b S) (h : ∀ v S9, (v, S9) = f_m_can a b S → P (.inl (some (.int v))) (SH, S9, T) 0 0) : xj_E (xX L xs) D 105 0 [(0, .ref 32), (1, .int a), (2, .int b)] [] (SH, S, T) P := by
  unfold d_m_can at hd
  unfold f_m_can at h
  obtain ⟨D1, rfl⟩ : ∃ D1, D = D1 + 1 := ⟨D - 1, by omega⟩
  refine xj_E.adv 6 (pc' := 8) (ls' := [(0, .ref 32), (1, .int a), (2, .int b)]) (st' := [.int b, .int a, .ref 32]) (w' := (SH, (xj_set S 32 0 0), T)) rfl ?_
  refine xj_E.calli (d := D1) (S := SH) rfl rfl rfl rfl rfl (xj_E.deep (ok_m_refusal (d := 0) hd.1 ?_) (by omega))
  intro v e
  subst e
  refine ⟨_, _, _, rfl, rfl, rfl, rfl, ?_⟩
  have hd := hd.2
  refine xj_E.adv 1 (pc' := (if xj_cmp .ne (r_m_refusal (xj_set S 32 0 0) a b) 0 = true then 18 else 14)) (ls' := [(0, .ref 32), (1, .int a), (2, .int b)]) (st' := []) (w' := (SH, (xj_set S 32 0 0), T)) rfl ?_
  refine xj_E.b_ne (fun q => ?_) (fun q => ?_)
  · have hd := hd.1 q
    have h := fun v S9 e => h v S9 (Eq.trans e (if_pos q).symm)
    refine xj_E.adv 1 (pc' := 19) (ls' := [(0, .ref 32), (1, .int a), (2, .int b)]) (st' := [.int 0]) (w' := (SH, (xj_set S 32 0 0), T)) rfl ?_
    exact xj_E.ret rfl rfl rfl rfl (h _ _ rfl)
  · have hd := hd.2 q
    have h := fun v S9 e => h v S9 (Eq.trans e (if_neg q).symm)
    refine xj_E.adv 2 (pc' := 19) (ls' := [(0, .ref 32), (1, .int a), (2, .int b)]) (st' := [.int 1]) (w' := (SH, (xj_set S 32 0 0), T)) rfl ?_
    exact xj_E.ret rfl rfl rfl rfl (h _ _ rfl)
set_option maxHeartbeats 4000000 in
set_option maxRecDepth 100000 in
theorem okk_m_markVariable {L : Nat} {xs : Nat → Int32} {T : Nat → Nat → Int64} (n : Nat) : (∀ (u1 : Int32) (u2 : Int32) S D (P : (Option Value ⊕ Nat) → xj_W → Nat → Nat → Prop), 1 ≤ D → (dk_m_markVariable n).1 u1 u2 S → (∀ v S9, (v, S9) = (fk_m_markVariable n).1 u1 u2 S → P (.inl none) (SH, S9, T) 0 0) → xj_E (xX L xs) D 106 2 [(0, .ref 32), (1, .int u1), (2, .int u2)] [] (SH, S, T) P) ∧
    (∀ (u1 : Int32) (u2 : Int32) (u3 : Int32) S D (P : (Option Value ⊕ Nat) → xj_W → Nat → Nat → Prop), 1 ≤ D → (dk_m_markVariable n).2.1 u1 u2 u3 S → (∀ v S9, (v, S9) = (fk_m_markVariable n).2.1 u1 u2 u3 S → P (.inl none) (SH, S9, T) 0 0) → xj_E (xX L xs) D 106 23 [(0, .ref 32), (1, .int u1), (2, .int u2), (3, .int u3)] [] (SH, S, T) P) ∧
    (∀ (u1 : Int32) (u2 : Int32) (u3 : Int32) (u4 : Int32) S D (P : (Option Value ⊕ Nat) → xj_W → Nat → Nat → Prop), 1 ≤ D → (dk_m_markVariable n).2.2 u1 u2 u3 u4 S → (∀ v S9, (v, S9) = (fk_m_markVariable n).2.2 u1 u2 u3 u4 S → P (.inl none) (SH, S9, T) 0 0) → xj_E (xX L xs) D 106 52 [(0, .ref 32), (1, .int u1), (2, .int u2), (3, .int u3), (4, .int u4)] [] (SH, S, T) P) := by
  induction n with
  | zero => exact ⟨fun _ _ _ _ _ _ hd _ => hd.elim, fun _ _ _ _ _ _ _ hd _ => hd.elim, fun _ _ _ _ _ _ _ _ hd _ => hd.elim⟩
  | succ n ih =>
    refine ⟨?_, ?_, ?_⟩
    · intro u1 u2 S D P hD hd h
      obtain ⟨D1, rfl⟩ : ∃ D1, D = D1 + 1 := ⟨D - 1, by omega⟩
      refine xj_E.adv 4 (pc' := (if xj_cmp .ge u2 (S 32 17) = true then 120 else 10)) (ls' := [(0, .ref 32), (1, .int u1), (2, .int u2)]) (st' := []) (w' := (SH, S, T)) rfl ?_
      refine xj_E.b_ge (fun q => ?_) (fun q => ?_)
      · have hd := hd.1 q
        have h := fun v S9 e => h v S9 (Eq.trans e (if_pos q).symm)
        exact xj_E.ret rfl rfl rfl rfl (h _ _ rfl)
      · have hd := hd.2 q
        have h := fun v S9 e => h v S9 (Eq.trans e (if_neg q).symm)
        refine xj_E.adv 2 (pc' := 12) (ls' := [(0, .ref 32), (1, .int u1), (2, .int u2)]) (st' := [.int u2, .ref 32]) (w' := (SH, S, T)) rfl ?_
        refine xj_E.calli (d := D1) (S := SH) rfl rfl rfl rfl rfl (xj_E.deep (ok_m_isFinal (d := 0) hd.1 ?_) (by omega))
        intro v e
        subst e
        refine ⟨_, _, _, rfl, rfl, rfl, rfl, ?_⟩
        have hd := hd.2
        refine xj_E.adv 1 (pc' := (if xj_cmp .eq (r_m_isFinal S u2) 0 = true then 21 else 18)) (ls' := [(0, .ref 32), (1, .int u1), (2, .int u2)]) (st' := []) (w' := (SH, S, T)) rfl ?_
        refine xj_E.b_eq (fun q => ?_) (fun q => ?_)
        · have hd := hd.1 q
          have h := fun v S9 e => h v S9 (Eq.trans e (if_pos q).symm)
          refine xj_E.adv 2 (pc' := 23) (ls' := [(3, .int 0), (0, .ref 32), (1, .int u1), (2, .int u2)]) (st' := []) (w' := (SH, S, T)) rfl ?_
          refine xj_E.loc [0, 1, 2, 3] xhth rfl (show xj_E (xX L xs) (D1 + 1) 106 23 [(0, .ref 32), (1, .int u1), (2, .int u2), (3, .int 0)] [] (SH, S, T) P from ?_)
          exact (ih.2.1) _ _ _ _ _ _ (by omega) hd h
        · have hd := hd.2 q
          have h := fun v S9 e => h v S9 (Eq.trans e (if_neg q).symm)
          refine xj_E.adv 3 (pc' := 2) (ls' := [(2, .int (u2 + 1)), (0, .ref 32), (1, .int u1)]) (st' := []) (w' := (SH, S, T)) rfl ?_
          refine xj_E.loc [0, 1, 2] xhth rfl (show xj_E (xX L xs) (D1 + 1) 106 2 [(0, .ref 32), (1, .int u1), (2, .int (u2 + 1))] [] (SH, S, T) P from ?_)
          exact (ih.1) _ _ _ _ _ (by omega) hd h
    · intro u1 u2 u3 S D P hD hd h
      refine xj_E.adv 4 (pc' := (if xj_cmp .ge u3 (S 32 5) = true then 114 else 31)) (ls' := [(0, .ref 32), (1, .int u1), (2, .int u2), (3, .int u3)]) (st' := []) (w' := (SH, S, T)) rfl ?_
      refine xj_E.b_ge (fun q => ?_) (fun q => ?_)
      · have hd := hd.1 q
        have h := fun v S9 e => h v S9 (Eq.trans e (if_pos q).symm)
        refine xj_E.adv 2 (pc' := 2) (ls' := [(2, .int (u2 + 1)), (0, .ref 32), (1, .int u1), (3, .int u3)]) (st' := []) (w' := (SH, S, T)) rfl ?_
        refine xj_E.loc [0, 1, 2] xhth rfl (show xj_E (xX L xs) D 106 2 [(0, .ref 32), (1, .int u1), (2, .int (u2 + 1))] [] (SH, S, T) P from ?_)
        exact (ih.1) _ _ _ _ _ (by omega) hd h
      · have hd := hd.2 q
        have h := fun v S9 e => h v S9 (Eq.trans e (if_neg q).symm)
        refine xj_E.adv 3 (pc' := 36) (ls' := [(0, .ref 32), (1, .int u1), (2, .int u2), (3, .int u3)]) (st' := [.int u3, .ref 36]) (w' := (SH, S, T)) rfl ?_
        refine xj_E.iald rfl rfl hd.1 ?_
        have hd := hd.2
        refine xj_E.adv 3 (pc' := 42) (ls' := [(0, .ref 32), (1, .int u1), (2, .int u2), (3, .int u3)]) (st' := [.int u2, .ref 45, .int (S 36 u3.toNatClampNeg)]) (w' := (SH, S, T)) rfl ?_
        refine xj_E.iald rfl rfl hd.1 ?_
        have hd := hd.2
        refine xj_E.adv 1 (pc' := (if xj_cmp .eq (S 36 u3.toNatClampNeg) (S 45 u2.toNatClampNeg) = true then 49 else 46)) (ls' := [(0, .ref 32), (1, .int u1), (2, .int u2), (3, .int u3)]) (st' := []) (w' := (SH, S, T)) rfl ?_
        refine xj_E.b_eq (fun q => ?_) (fun q => ?_)
        · have hd := hd.1 q
          have h := fun v S9 e => h v S9 (Eq.trans e (if_pos q).symm)
          refine xj_E.adv 2 (pc' := 52) (ls' := [(4, .int 0), (0, .ref 32), (1, .int u1), (2, .int u2), (3, .int u3)]) (st' := []) (w' := (SH, S, T)) rfl ?_
          refine xj_E.loc [0, 1, 2, 3, 4] xhth rfl (show xj_E (xX L xs) D 106 52 [(0, .ref 32), (1, .int u1), (2, .int u2), (3, .int u3), (4, .int 0)] [] (SH, S, T) P from ?_)
          exact (ih.2.2) _ _ _ _ _ _ _ (by omega) hd h
        · have hd := hd.2 q
          have h := fun v S9 e => h v S9 (Eq.trans e (if_neg q).symm)
          refine xj_E.adv 3 (pc' := 23) (ls' := [(3, .int (u3 + 1)), (0, .ref 32), (1, .int u1), (2, .int u2)]) (st' := []) (w' := (SH, S, T)) rfl ?_
          refine xj_E.loc [0, 1, 2, 3] xhth rfl (show xj_E (xX L xs) D 106 23 [(0, .ref 32), (1, .int u1), (2, .int u2), (3, .int (u3 + 1))] [] (SH, S, T) P from ?_)
          exact (ih.2.1) _ _ _ _ _ _ (by omega) hd h
    · intro u1 u2 u3 u4 S D P hD hd h
      refine xj_E.adv 4 (pc' := 59) (ls' := [(0, .ref 32), (1, .int u1), (2, .int u2), (3, .int u3), (4, .int u4)]) (st' := [.int u3, .ref 38, .int u4]) (w' := (SH, S, T)) rfl ?_
      refine xj_E.iald rfl rfl hd.1 ?_
      have hd := hd.2
      refine xj_E.adv 1 (pc' := (if xj_cmp .ge u4 (S 38 u3.toNatClampNeg) = true then 108 else 63)) (ls' := [(0, .ref 32), (1, .int u1), (2, .int u2), (3, .int u3), (4, .int u4)]) (st' := []) (w' := (SH, S, T)) rfl ?_
      refine xj_E.b_ge (fun q => ?_) (fun q => ?_)
      · have hd := hd.1 q
        have h := fun v S9 e => h v S9 (Eq.trans e (if_pos q).symm)
        refine xj_E.adv 2 (pc' := 23) (ls' := [(3, .int (u3 + 1)), (0, .ref 32), (1, .int u1), (2, .int u2), (4, .int u4)]) (st' := []) (w' := (SH, S, T)) rfl ?_
        refine xj_E.loc [0, 1, 2, 3] xhth rfl (show xj_E (xX L xs) D 106 23 [(0, .ref 32), (1, .int u1), (2, .int u2), (3, .int (u3 + 1))] [] (SH, S, T) P from ?_)
        exact (ih.2.1) _ _ _ _ _ _ (by omega) hd h
      · have hd := hd.2 q
        have h := fun v S9 e => h v S9 (Eq.trans e (if_neg q).symm)
        refine xj_E.adv 7 (pc' := 73) (ls' := [(0, .ref 32), (1, .int u1), (2, .int u2), (3, .int u3), (4, .int u4)]) (st' := [.int ((2 * u3) + u4), .ref 39]) (w' := (SH, S, T)) rfl ?_
        refine xj_E.iald rfl rfl hd.1 ?_
        have hd := hd.2
        refine xj_E.adv 4 (pc' := (if xj_cmp .ne (S 39 ((2 * u3) + u4).toNatClampNeg) (100 + u1) = true then 102 else 81)) (ls' := [(0, .ref 32), (1, .int u1), (2, .int u2), (3, .int u3), (4, .int u4)]) (st' := []) (w' := (SH, S, T)) rfl ?_
        refine xj_E.b_ne (fun q => ?_) (fun q => ?_)
        · have hd := hd.1 q
          have h := fun v S9 e => h v S9 (Eq.trans e (if_pos q).symm)
          refine xj_E.adv 2 (pc' := 52) (ls' := [(4, .int (u4 + 1)), (0, .ref 32), (1, .int u1), (2, .int u2), (3, .int u3)]) (st' := []) (w' := (SH, S, T)) rfl ?_
          refine xj_E.loc [0, 1, 2, 3, 4] xhth rfl (show xj_E (xX L xs) D 106 52 [(0, .ref 32), (1, .int u1), (2, .int u2), (3, .int u3), (4, .int (u4 + 1))] [] (SH, S, T) P from ?_)
          exact (ih.2.2) _ _ _ _ _ _ _ (by omega) hd h
        · have hd := hd.2 q
          have h := fun v S9 e => h v S9 (Eq.trans e (if_neg q).symm)
          refine xj_E.adv 6 (pc' := 91) (ls' := [(0, .ref 32), (1, .int u1), (2, .int u2), (3, .int u3), (4, .int u4)]) (st' := [.int u2, .ref 49, .int u2, .ref 49]) (w' := (SH, S, T)) rfl ?_
          refine xj_E.iald rfl rfl hd.1 ?_
          have hd := hd.2
          refine xj_E.adv 8 (pc' := 101) (ls' := [(0, .ref 32), (1, .int u1), (2, .int u2), (3, .int u3), (4, .int u4)]) (st' := [.int ((S 49 u2.toNatClampNeg) ||| (1 <<< (((2 * u3) + u4) &&& 31))), .int u2, .ref 49]) (w' := (SH, S, T)) rfl ?_
          refine xj_E.iast rfl rfl hd.1 ?_
          have hd := hd.2
          refine xj_E.adv 2 (pc' := 52) (ls' := [(4, .int (u4 + 1)), (0, .ref 32), (1, .int u1), (2, .int u2), (3, .int u3)]) (st' := []) (w' := (SH, (xj_set S 49 u2.toNatClampNeg ((S 49 u2.toNatClampNeg) ||| (1 <<< (((2 * u3) + u4) &&& 31)))), T)) rfl ?_
          refine xj_E.loc [0, 1, 2, 3, 4] xhth rfl (show xj_E (xX L xs) D 106 52 [(0, .ref 32), (1, .int u1), (2, .int u2), (3, .int u3), (4, .int (u4 + 1))] [] (SH, (xj_set S 49 u2.toNatClampNeg ((S 49 u2.toNatClampNeg) ||| (1 <<< (((2 * u3) + u4) &&& 31)))), T) P from ?_)
          exact (ih.2.2) _ _ _ _ _ _ _ (by omega) hd h
set_option maxHeartbeats 4000000 in
set_option maxRecDepth 100000 in
theorem ok_m_markVariable {L : Nat} {xs : Nat → Int32} {T : Nat → Nat → Int64} {D : Nat} {S : (Nat → Nat → Int32)} {P : (Option Value ⊕ Nat) → xj_W → Nat → Nat → Prop} {a : Int32} (hD : 1 ≤ D) (hd : d_m_markVariable a S) (h : ∀ v S9, (v, S9) = f_m_markVariable a S → P (.inl none) (SH, S9, T) 0 0) : xj_E (xX L xs) D 106 0 [(0, .ref 32), (1, .int a)] [] (SH, S, T) P := by
  unfold d_m_markVariable at hd
  unfold f_m_markVariable at h
  refine xj_E.adv 2 (pc' := 2) (ls' := [(2, .int 0), (0, .ref 32), (1, .int a)]) (st' := []) (w' := (SH, S, T)) rfl ?_
  refine xj_E.loc [0, 1, 2] xhth rfl (show xj_E (xX L xs) D 106 2 [(0, .ref 32), (1, .int a), (2, .int 0)] [] (SH, S, T) P from ?_)
  exact ((okk_m_markVariable 4000).1) _ _ _ _ _ (by omega) hd h
set_option maxHeartbeats 4000000 in
set_option maxRecDepth 100000 in
theorem ok_m_value {L : Nat} {xs : Nat → Int32} {T : Nat → Nat → Int64} {D : Nat} {S : (Nat → Nat → Int32)} {P : (Option Value ⊕ Nat) → xj_W → Nat → Nat → Prop} {a : Int32} (hD : 1 ≤ D) (hd : d_m_value a S) (h : ∀ v S9, (v, S9) = f_m_value a S → P (.inl (some (.int v))) (SH, S9, T) 0 0) : xj_E (xX L xs) D 108 0 [(0, .ref 32), (1, .int a)] [] (SH, S, T) P := by
  unfold d_m_value at hd
  unfold f_m_value at h
  obtain ⟨D1, rfl⟩ : ∃ D1, D = D1 + 1 := ⟨D - 1, by omega⟩
  refine xj_E.adv 5 (pc' := 7) (ls' := [(0, .ref 32), (1, .int a)]) (st' := [.int 3, .int a]) (w' := (SH, (xj_set S 32 0 0), T)) rfl ?_
  refine xj_E.calli (d := D1) (S := SH) rfl rfl rfl rfl rfl (xj_E.deep (ok_m_within (d := 0) hd.1 ?_) (by omega))
  intro v e
  subst e
  refine ⟨_, _, _, rfl, rfl, rfl, rfl, ?_⟩
  have hd := hd.2
  refine xj_E.adv 1 (pc' := (if xj_cmp .eq (r_m_within (xj_set S 32 0 0) a 3) 0 = true then 22 else 13)) (ls' := [(0, .ref 32), (1, .int a)]) (st' := []) (w' := (SH, (xj_set S 32 0 0), T)) rfl ?_
  refine xj_E.b_eq (fun q => ?_) (fun q => ?_)
  · have hd := hd.1 q
    have h := fun v S9 e => h v S9 (Eq.trans e (if_pos q).symm)
    refine xj_E.adv 1 (pc' := 23) (ls' := [(0, .ref 32), (1, .int a)]) (st' := [.int 0]) (w' := (SH, (xj_set S 32 0 0), T)) rfl ?_
    exact xj_E.ret rfl rfl rfl rfl (h _ _ rfl)
  · have hd := hd.2 q
    have h := fun v S9 e => h v S9 (Eq.trans e (if_neg q).symm)
    refine xj_E.adv 3 (pc' := 18) (ls' := [(0, .ref 32), (1, .int a)]) (st' := [.int a, .ref 50]) (w' := (SH, (xj_set S 32 0 0), T)) rfl ?_
    refine xj_E.iald rfl rfl hd.1 ?_
    have hd := hd.2
    refine xj_E.adv 1 (pc' := 23) (ls' := [(0, .ref 32), (1, .int a)]) (st' := [.int (S 50 a.toNatClampNeg)]) (w' := (SH, (xj_set S 32 0 0), T)) rfl ?_
    exact xj_E.ret rfl rfl rfl rfl (h _ _ rfl)
set_option maxHeartbeats 4000000 in
set_option maxRecDepth 100000 in
theorem ok_m_instances {L : Nat} {xs : Nat → Int32} {T : Nat → Nat → Int64} {D : Nat} {S : (Nat → Nat → Int32)} {P : (Option Value ⊕ Nat) → xj_W → Nat → Nat → Prop} (hD : 0 ≤ D) (hd : d_m_instances  S) (h : ∀ v S9, (v, S9) = f_m_instances  S → P (.inl (some (.int v))) (SH, S9, T) 0 0) : xj_E (xX L xs) D 109 0 [(0, .ref 32)] [] (SH, S, T) P := by
  unfold d_m_instances at hd
  unfold f_m_instances at h
  refine xj_E.adv 5 (pc' := 9) (ls' := [(0, .ref 32)]) (st' := [.int (S 32 17)]) (w' := (SH, (xj_set S 32 0 0), T)) rfl ?_
  exact xj_E.ret rfl rfl rfl rfl (h _ _ rfl)
