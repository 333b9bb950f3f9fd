/-! methods that store: our machine does so -/
seal f_l_copyFrom14 d_l_copyFrom14 f_l_copyFrom23 d_l_copyFrom23 f_l_add d_l_add f_l_note d_l_note f_p_addItem d_p_addItem f_p_addSentry d_p_addSentry f_p_addPart d_p_addPart f_p_putIfPart d_p_putIfPart f_c_openCommand d_c_openCommand f_c_mark d_c_mark f_m_fail d_m_fail f_m_item d_m_item f_m_sentry d_m_sentry f_m_on d_m_on f_m_when d_m_when f_m_book d_m_book f_m_mark d_m_mark f_m_create d_m_create f_m_again d_m_again f_m_keep d_m_keep f_m_putBack d_m_putBack f_m_can d_m_can f_m_markVariable d_m_markVariable f_m_value d_m_value f_m_instances d_m_instances f_m_instance d_m_instance f_m_marked d_m_marked f_m_moves d_m_moves f_m_history d_m_history f_c_markSiblings d_c_markSiblings f_c_markAll d_c_markAll f_m_enter d_m_enter f_m_make d_m_make f_m_letIn d_m_letIn f_m_workOff d_m_workOff f_m_finish d_m_finish f_m_begin d_m_begin f_m_move d_m_move f_m_set d_m_set f_c_create d_c_create f_c_make d_c_make f_c_moveWhatIsIn d_c_moveWhatIsIn f_c_createWhatIsIn d_c_createWhatIsIn f_c_exitChildren d_c_exitChildren f_c_moveChildren d_c_moveChildren f_c_repeat d_c_repeat f_c_letIn d_c_letIn f_c_item d_c_item f_c_sentry d_c_sentry f_c_on d_c_on f_c_when d_c_when f_c_workOff d_c_workOff f_c_begin d_c_begin f_c_move d_c_move f_c_set d_c_set
set_option maxHeartbeats 4000000 in
set_option maxRecDepth 100000 in
theorem okk_m_make {L : Nat} {xs : Nat → Int32} {T : Nat → Nat → Int64} (n : Nat) : (∀  S D (P : (Option Value ⊕ Nat) → xj_W → Nat → Nat → Prop), 5 ≤ D → (dk_m_make n).1  S → (∀ v S9, (v, S9) = (fk_m_make n).1  S → P (.inl none) (SH, S9, T) 0 0) → xj_E (xX L xs) D 88 11 [(0, .ref 32)] [] (SH, S, T) P) ∧
    (∀ (u3 : Int32) (u4 : Int32) (u5 : Int32) S D (P : (Option Value ⊕ Nat) → xj_W → Nat → Nat → Prop), 5 ≤ D → (dk_m_make n).2 u3 u4 u5 S → (∀ v S9, (v, S9) = (fk_m_make n).2 u3 u4 u5 S → P (.inl none) (SH, S9, T) 0 0) → xj_E (xX L xs) D 88 63 [(0, .ref 32), (3, .int u3), (4, .int u4), (5, .int u5)] [] (SH, S, T) P) := by
  induction n with
  | zero => exact ⟨fun _ _ _ _ hd _ => hd.elim, fun _ _ _ _ _ _ _ hd _ => hd.elim⟩
  | succ n ih =>
    refine ⟨?_, ?_⟩
    · intro  S D P hD hd h
      refine xj_E.adv 3 (pc' := (if xj_cmp .le (S 32 39) 0 = true then 166 else 18)) (ls' := [(0, .ref 32)]) (st' := []) (w' := (SH, S, T)) rfl ?_
      refine xj_E.b_le (fun q => ?_) (fun q => ?_)
      · have hd := hd.1 q
        have h := fun v S9 e => h v S9 (Eq.trans e (if_pos q).symm)
        exact xj_E.ret rfl rfl rfl rfl (h _ _ rfl)
      · have hd := hd.2 q
        have h := fun v S9 e => h v S9 (Eq.trans e (if_neg q).symm)
        refine xj_E.adv 3 (pc' := (if xj_cmp .ne (S 32 38) 0 = true then 166 else 25)) (ls' := [(0, .ref 32)]) (st' := []) (w' := (SH, S, T)) rfl ?_
        refine xj_E.b_ne (fun q => ?_) (fun q => ?_)
        · have hd := hd.1 q
          have h := fun v S9 e => h v S9 (Eq.trans e (if_pos q).symm)
          exact xj_E.ret rfl rfl rfl rfl (h _ _ rfl)
        · have hd := hd.2 q
          have h := fun v S9 e => h v S9 (Eq.trans e (if_neg q).symm)
          refine xj_E.adv 6 (pc' := 35) (ls' := [(0, .ref 32)]) (st' := [.int ((S 32 39) - 1), .ref 61]) (w' := (SH, S, T)) rfl ?_
          refine xj_E.iald rfl rfl hd.1 ?_
          have hd := hd.2
          refine xj_E.adv 7 (pc' := 47) (ls' := [(3, .int (S 61 ((S 32 39) - 1).toNatClampNeg)), (0, .ref 32)]) (st' := [.int ((S 32 39) - 1), .ref 62]) (w' := (SH, S, T)) rfl ?_
          refine xj_E.iald rfl rfl hd.1 ?_
          have hd := hd.2
          refine xj_E.adv 7 (pc' := 60) (ls' := [(4, .int (S 62 ((S 32 39) - 1).toNatClampNeg)), (3, .int (S 61 ((S 32 39) - 1).toNatClampNeg)), (0, .ref 32)]) (st' := [.int ((S 32 39) - 1), .ref 63]) (w' := (SH, S, T)) rfl ?_
          refine xj_E.iald rfl rfl hd.1 ?_
          have hd := hd.2
          refine xj_E.adv 1 (pc' := 63) (ls' := [(5, .int (S 63 ((S 32 39) - 1).toNatClampNeg)), (4, .int (S 62 ((S 32 39) - 1).toNatClampNeg)), (3, .int (S 61 ((S 32 39) - 1).toNatClampNeg)), (0, .ref 32)]) (st' := []) (w' := (SH, S, T)) rfl ?_
          refine xj_E.loc [0, 3, 4, 5] xhth rfl (show xj_E (xX L xs) D 88 63 [(0, .ref 32), (3, .int (S 61 ((S 32 39) - 1).toNatClampNeg)), (4, .int (S 62 ((S 32 39) - 1).toNatClampNeg)), (5, .int (S 63 ((S 32 39) - 1).toNatClampNeg))] [] (SH, S, T) P from ?_)
          exact (ih.2) _ _ _ _ _ _ (by omega) hd h
    · intro u3 u4 u5 S D P hD hd h
      obtain ⟨D1, rfl⟩ : ∃ D1, D = D1 + 1 := ⟨D - 1, by omega⟩
      refine xj_E.adv 4 (pc' := (if xj_cmp .ge u5 (S 32 17) = true then 100 else 72)) (ls' := [(0, .ref 32), (3, .int u3), (4, .int u4), (5, .int u5)]) (st' := []) (w' := (SH, S, T)) rfl ?_
      refine xj_E.b_ge (fun q => ?_) (fun q => ?_)
      · have hd := hd.1 q
        have h := fun v S9 e => h v S9 (Eq.trans e (if_pos q).symm)
        refine xj_E.adv 9 (pc' := 114) (ls' := [(0, .ref 32), (3, .int u3), (4, .int u4), (5, .int u5)]) (st' := [.int (u5 + 1), .int ((S 32 39) - 1), .ref 63]) (w' := (SH, S, T)) rfl ?_
        refine xj_E.iast rfl rfl hd.1 ?_
        have hd := hd.2
        refine xj_E.adv 4 (pc' := (if xj_cmp .ge u5 (S 32 17) = true then 146 else 124)) (ls' := [(0, .ref 32), (3, .int u3), (4, .int u4), (5, .int u5)]) (st' := []) (w' := (SH, (xj_set S 63 ((S 32 39) - 1).toNatClampNeg (u5 + 1)), T)) rfl ?_
        refine xj_E.b_ge (fun q => ?_) (fun q => ?_)
        · have hd := hd.1 q
          have h := fun v S9 e => h v S9 (Eq.trans e (if_pos q).symm)
          refine xj_E.adv 9 (pc' := 160) (ls' := [(0, .ref 32), (3, .int u3), (4, .int u4), (5, .int u5)]) (st' := [.int u4, .int u3, .ref 32]) (w' := (SH, (xj_set (xj_set S 63 ((S 32 39) - 1).toNatClampNeg (u5 + 1)) 32 39 ((S 32 39) - 1)), T)) rfl ?_
          refine xj_E.callv (d := D1) (S := SH) rfl rfl rfl rfl rfl (ok_m_again (by omega) hd.1 ?_)
          intro v1 S1 e1
          refine ⟨_, _, rfl, rfl, rfl, rfl, ?_⟩
          have hd := hd.2
          rw [← e1] at hd h
          refine xj_E.adv 1 (pc' := 11) (ls' := [(0, .ref 32), (3, .int u3), (4, .int u4), (5, .int u5)]) (st' := []) (w' := (SH, S1, T)) rfl ?_
          refine xj_E.loc [0] xhth rfl (show xj_E (xX L xs) (D1 + 1) 88 11 [(0, .ref 32)] [] (SH, S1, T) P from ?_)
          exact (ih.1) _ _ _ (by omega) hd h
        · have hd := hd.2 q
          have h := fun v S9 e => h v S9 (Eq.trans e (if_neg q).symm)
          refine xj_E.adv 5 (pc' := (if xj_cmp .ne u4 4 = true then 138 else 133)) (ls' := [(0, .ref 32), (3, .int u3), (4, .int u4), (5, .int u5)]) (st' := [.int u5, .ref 32]) (w' := (SH, (xj_set S 63 ((S 32 39) - 1).toNatClampNeg (u5 + 1)), T)) rfl ?_
          refine xj_E.b_ne (fun q => ?_) (fun q => ?_)
          · have hd := hd.1 q
            have h := fun v S9 e => h v S9 (Eq.trans e (if_pos q).symm)
            refine xj_E.adv 1 (pc' := 140) (ls' := [(0, .ref 32), (3, .int u3), (4, .int u4), (5, .int u5)]) (st' := [.int u4, .int u5, .ref 32]) (w' := (SH, (xj_set S 63 ((S 32 39) - 1).toNatClampNeg (u5 + 1)), T)) rfl ?_
            refine xj_E.callv (d := D1) (S := SH) rfl rfl rfl rfl rfl (ok_m_enter (by omega) hd.1 ?_)
            intro v2 S2 e2
            refine ⟨_, _, rfl, rfl, rfl, rfl, ?_⟩
            have hd := hd.2
            rw [← e2] at hd h
            refine xj_E.adv 2 (pc' := 11) (ls' := [(0, .ref 32), (3, .int u3), (4, .int u4), (5, .int u5)]) (st' := []) (w' := (SH, S2, T)) rfl ?_
            refine xj_E.loc [0] xhth rfl (show xj_E (xX L xs) (D1 + 1) 88 11 [(0, .ref 32)] [] (SH, S2, T) P from ?_)
            exact (ih.1) _ _ _ (by omega) hd h
          · have hd := hd.2 q
            have h := fun v S9 e => h v S9 (Eq.trans e (if_neg q).symm)
            refine xj_E.adv 2 (pc' := 140) (ls' := [(0, .ref 32), (3, .int u3), (4, .int u4), (5, .int u5)]) (st' := [.int 9, .int u5, .ref 32]) (w' := (SH, (xj_set S 63 ((S 32 39) - 1).toNatClampNeg (u5 + 1)), T)) rfl ?_
            refine xj_E.callv (d := D1) (S := SH) rfl rfl rfl rfl rfl (ok_m_enter (by omega) hd.1 ?_)
            intro v3 S3 e3
            refine ⟨_, _, rfl, rfl, rfl, rfl, ?_⟩
            have hd := hd.2
            rw [← e3] at hd h
            refine xj_E.adv 2 (pc' := 11) (ls' := [(0, .ref 32), (3, .int u3), (4, .int u4), (5, .int u5)]) (st' := []) (w' := (SH, S3, T)) rfl ?_
            refine xj_E.loc [0] xhth rfl (show xj_E (xX L xs) (D1 + 1) 88 11 [(0, .ref 32)] [] (SH, S3, T) P from ?_)
            exact (ih.1) _ _ _ (by omega) hd h
      · have hd := hd.2 q
        have h := fun v S9 e => h v S9 (Eq.trans e (if_neg q).symm)
        refine xj_E.adv 3 (pc' := 78) (ls' := [(0, .ref 32), (3, .int u3), (4, .int u4), (5, .int u5)]) (st' := [.int u5, .ref 46]) (w' := (SH, S, T)) rfl ?_
        refine xj_E.iald rfl rfl hd.1 ?_
        have hd := hd.2
        refine xj_E.adv 2 (pc' := (if xj_cmp .ne (S 46 u5.toNatClampNeg) u3 = true then 94 else 83)) (ls' := [(0, .ref 32), (3, .int u3), (4, .int u4), (5, .int u5)]) (st' := []) (w' := (SH, S, T)) rfl ?_
        refine xj_E.b_ne (fun q => ?_) (fun q => ?_)
        · have hd := hd.1 q
          have h := fun v S9 e => h v S9 (Eq.trans e (if_pos q).symm)
          refine xj_E.adv 2 (pc' := 63) (ls' := [(5, .int (u5 + 1)), (0, .ref 32), (3, .int u3), (4, .int u4)]) (st' := []) (w' := (SH, S, T)) rfl ?_
          refine xj_E.loc [0, 3, 4, 5] xhth rfl (show xj_E (xX L xs) (D1 + 1) 88 63 [(0, .ref 32), (3, .int u3), (4, .int u4), (5, .int (u5 + 1))] [] (SH, S, T) P from ?_)
          exact (ih.2) _ _ _ _ _ _ (by omega) hd h
        · have hd := hd.2 q
          have h := fun v S9 e => h v S9 (Eq.trans e (if_neg q).symm)
          refine xj_E.adv 3 (pc' := 88) (ls' := [(0, .ref 32), (3, .int u3), (4, .int u4), (5, .int u5)]) (st' := [.int u4, .int u5, .ref 32]) (w' := (SH, S, T)) rfl ?_
          refine xj_E.calli (d := D1) (S := SH) rfl rfl rfl rfl rfl (xj_E.deep (ok_m_follows (d := 0) hd.1 ?_) (by omega))
          intro v e
          subst e
          refine ⟨_, _, _, rfl, rfl, rfl, rfl, ?_⟩
          have hd := hd.2
          refine xj_E.adv 1 (pc' := (if xj_cmp .ne (r_m_follows S u5 u4) 0 = true then 100 else 94)) (ls' := [(0, .ref 32), (3, .int u3), (4, .int u4), (5, .int u5)]) (st' := []) (w' := (SH, S, T)) rfl ?_
          refine xj_E.b_ne (fun q => ?_) (fun q => ?_)
          · have hd := hd.1 q
            have h := fun v S9 e => h v S9 (Eq.trans e (if_pos q).symm)
            refine xj_E.adv 9 (pc' := 114) (ls' := [(0, .ref 32), (3, .int u3), (4, .int u4), (5, .int u5)]) (st' := [.int (u5 + 1), .int ((S 32 39) - 1), .ref 63]) (w' := (SH, S, T)) rfl ?_
            refine xj_E.iast rfl rfl hd.1 ?_
            have hd := hd.2
            refine xj_E.adv 4 (pc' := (if xj_cmp .ge u5 (S 32 17) = true then 146 else 124)) (ls' := [(0, .ref 32), (3, .int u3), (4, .int u4), (5, .int u5)]) (st' := []) (w' := (SH, (xj_set S 63 ((S 32 39) - 1).toNatClampNeg (u5 + 1)), T)) rfl ?_
            refine xj_E.b_ge (fun q => ?_) (fun q => ?_)
            · have hd := hd.1 q
              have h := fun v S9 e => h v S9 (Eq.trans e (if_pos q).symm)
              refine xj_E.adv 9 (pc' := 160) (ls' := [(0, .ref 32), (3, .int u3), (4, .int u4), (5, .int u5)]) (st' := [.int u4, .int u3, .ref 32]) (w' := (SH, (xj_set (xj_set S 63 ((S 32 39) - 1).toNatClampNeg (u5 + 1)) 32 39 ((S 32 39) - 1)), T)) rfl ?_
              refine xj_E.callv (d := D1) (S := SH) rfl rfl rfl rfl rfl (ok_m_again (by omega) hd.1 ?_)
              intro v4 S4 e4
              refine ⟨_, _, rfl, rfl, rfl, rfl, ?_⟩
              have hd := hd.2
              rw [← e4] at hd h
              refine xj_E.adv 1 (pc' := 11) (ls' := [(0, .ref 32), (3, .int u3), (4, .int u4), (5, .int u5)]) (st' := []) (w' := (SH, S4, T)) rfl ?_
              refine xj_E.loc [0] xhth rfl (show xj_E (xX L xs) (D1 + 1) 88 11 [(0, .ref 32)] [] (SH, S4, T) P from ?_)
              exact (ih.1) _ _ _ (by omega) hd h
            · have hd := hd.2 q
              have h := fun v S9 e => h v S9 (Eq.trans e (if_neg q).symm)
              refine xj_E.adv 5 (pc' := (if xj_cmp .ne u4 4 = true then 138 else 133)) (ls' := [(0, .ref 32), (3, .int u3), (4, .int u4), (5, .int u5)]) (st' := [.int u5, .ref 32]) (w' := (SH, (xj_set S 63 ((S 32 39) - 1).toNatClampNeg (u5 + 1)), T)) rfl ?_
              refine xj_E.b_ne (fun q => ?_) (fun q => ?_)
              · have hd := hd.1 q
                have h := fun v S9 e => h v S9 (Eq.trans e (if_pos q).symm)
                refine xj_E.adv 1 (pc' := 140) (ls' := [(0, .ref 32), (3, .int u3), (4, .int u4), (5, .int u5)]) (st' := [.int u4, .int u5, .ref 32]) (w' := (SH, (xj_set S 63 ((S 32 39) - 1).toNatClampNeg (u5 + 1)), T)) rfl ?_
                refine xj_E.callv (d := D1) (S := SH) rfl rfl rfl rfl rfl (ok_m_enter (by omega) hd.1 ?_)
                intro v5 S5 e5
                refine ⟨_, _, rfl, rfl, rfl, rfl, ?_⟩
                have hd := hd.2
                rw [← e5] at hd h
                refine xj_E.adv 2 (pc' := 11) (ls' := [(0, .ref 32), (3, .int u3), (4, .int u4), (5, .int u5)]) (st' := []) (w' := (SH, S5, T)) rfl ?_
                refine xj_E.loc [0] xhth rfl (show xj_E (xX L xs) (D1 + 1) 88 11 [(0, .ref 32)] [] (SH, S5, T) P from ?_)
                exact (ih.1) _ _ _ (by omega) hd h
              · have hd := hd.2 q
                have h := fun v S9 e => h v S9 (Eq.trans e (if_neg q).symm)
                refine xj_E.adv 2 (pc' := 140) (ls' := [(0, .ref 32), (3, .int u3), (4, .int u4), (5, .int u5)]) (st' := [.int 9, .int u5, .ref 32]) (w' := (SH, (xj_set S 63 ((S 32 39) - 1).toNatClampNeg (u5 + 1)), T)) rfl ?_
                refine xj_E.callv (d := D1) (S := SH) rfl rfl rfl rfl rfl (ok_m_enter (by omega) hd.1 ?_)
                intro v6 S6 e6
                refine ⟨_, _, rfl, rfl, rfl, rfl, ?_⟩
                have hd := hd.2
                rw [← e6] at hd h
                refine xj_E.adv 2 (pc' := 11) (ls' := [(0, .ref 32), (3, .int u3), (4, .int u4), (5, .int u5)]) (st' := []) (w' := (SH, S6, T)) rfl ?_
                refine xj_E.loc [0] xhth rfl (show xj_E (xX L xs) (D1 + 1) 88 11 [(0, .ref 32)] [] (SH, S6, T) P from ?_)
                exact (ih.1) _ _ _ (by omega) hd h
          · have hd := hd.2 q
            have h := fun v S9 e => h v S9 (Eq.trans e (if_neg q).symm)
            refine xj_E.adv 2 (pc' := 63) (ls' := [(5, .int (u5 + 1)), (0, .ref 32), (3, .int u3), (4, .int u4)]) (st' := []) (w' := (SH, S, T)) rfl ?_
            refine xj_E.loc [0, 3, 4, 5] xhth rfl (show xj_E (xX L xs) (D1 + 1) 88 63 [(0, .ref 32), (3, .int u3), (4, .int u4), (5, .int (u5 + 1))] [] (SH, S, T) P from ?_)
            exact (ih.2) _ _ _ _ _ _ (by omega) hd h
set_option maxHeartbeats 4000000 in
set_option maxRecDepth 100000 in
theorem ok_m_make {L : Nat} {xs : Nat → Int32} {T : Nat → Nat → Int64} {D : Nat} {S : (Nat → Nat → Int32)} {P : (Option Value ⊕ Nat) → xj_W → Nat → Nat → Prop} {a b : Int32} (hD : 5 ≤ D) (hd : d_m_make a b S) (h : ∀ v S9, (v, S9) = f_m_make a b S → P (.inl none) (SH, S9, T) 0 0) : xj_E (xX L xs) D 88 0 [(0, .ref 32), (1, .int a), (2, .int b)] [] (SH, S, T) P := by
  unfold d_m_make at hd
  unfold f_m_make at h
  obtain ⟨D1, rfl⟩ : ∃ D1, D = D1 + 1 := ⟨D - 1, by omega⟩
  refine xj_E.adv 6 (pc' := 8) (ls' := [(0, .ref 32), (1, .int a), (2, .int b)]) (st' := [.int b, .int a, .ref 32]) (w' := (SH, (xj_set S 32 39 0), T)) rfl ?_
  refine xj_E.callv (d := D1) (S := SH) rfl rfl rfl rfl rfl (ok_m_enter (by omega) hd.1 ?_)
  intro v1 S1 e1
  refine ⟨_, _, rfl, rfl, rfl, rfl, ?_⟩
  have hd := hd.2
  rw [← e1] at hd h
  refine xj_E.loc [0] xhth rfl (show xj_E (xX L xs) (D1 + 1) 88 11 [(0, .ref 32)] [] (SH, S1, T) P from ?_)
  exact ((okk_m_make 4000).1) _ _ _ (by omega) hd h
set_option maxHeartbeats 4000000 in
set_option maxRecDepth 100000 in
theorem ok_m_letIn {L : Nat} {xs : Nat → Int32} {T : Nat → Nat → Int64} {D : Nat} {S : (Nat → Nat → Int32)} {P : (Option Value ⊕ Nat) → xj_W → Nat → Nat → Prop} {a : Int32} (hD : 6 ≤ D) (hd : d_m_letIn a S) (h : ∀ v S9, (v, S9) = f_m_letIn a S → P (.inl none) (SH, S9, T) 0 0) : xj_E (xX L xs) D 96 0 [(0, .ref 32), (1, .int a)] [] (SH, S, T) P := by
  unfold d_m_letIn at hd
  unfold f_m_letIn at h
  obtain ⟨D1, rfl⟩ : ∃ D1, D = D1 + 1 := ⟨D - 1, by omega⟩
  refine xj_E.adv 3 (pc' := 3) (ls' := [(0, .ref 32), (1, .int a)]) (st' := [.int 1, .int a, .ref 32]) (w' := (SH, S, T)) rfl ?_
  refine xj_E.calli (d := D1) (S := SH) rfl rfl rfl rfl rfl (xj_E.deep (ok_m_hasFlag (d := 0) hd.1 ?_) (by omega))
  intro v e
  subst e
  refine ⟨_, _, _, rfl, rfl, rfl, rfl, ?_⟩
  have hd := hd.2
  refine xj_E.adv 1 (pc' := (if xj_cmp .eq (r_m_hasFlag S a 1) 0 = true then 33 else 9)) (ls' := [(0, .ref 32), (1, .int a)]) (st' := []) (w' := (SH, S, T)) rfl ?_
  refine xj_E.b_eq (fun q => ?_) (fun q => ?_)
  · have hd := hd.1 q
    have h := fun v S9 e => h v S9 (Eq.trans e (if_pos q).symm)
    refine xj_E.adv 3 (pc' := (if xj_cmp .eq (S 32 38) 0 = true then 41 else 40)) (ls' := [(0, .ref 32), (1, .int a)]) (st' := []) (w' := (SH, S, T)) rfl ?_
    refine xj_E.b_eq (fun q => ?_) (fun q => ?_)
    · have hd := hd.1 q
      have h := fun v S9 e => h v S9 (Eq.trans e (if_pos q).symm)
      refine xj_E.adv 2 (pc' := 43) (ls' := [(0, .ref 32), (1, .int a)]) (st' := [.int a, .ref 32]) (w' := (SH, S, T)) rfl ?_
      refine xj_E.calli (d := D1) (S := SH) rfl rfl rfl rfl rfl (xj_E.deep (ok_m_kindOf (d := 0) hd.1 ?_) (by omega))
      intro v e
      subst e
      refine ⟨_, _, _, rfl, rfl, rfl, rfl, ?_⟩
      have hd := hd.2
      refine xj_E.adv 2 (pc' := (if xj_cmp .ne (r_m_kindOf S a) 2 = true then 59 else 50)) (ls' := [(0, .ref 32), (1, .int a)]) (st' := []) (w' := (SH, S, T)) rfl ?_
      refine xj_E.b_ne (fun q => ?_) (fun q => ?_)
      · have hd := hd.1 q
        have h := fun v S9 e => h v S9 (Eq.trans e (if_pos q).symm)
        refine xj_E.adv 5 (pc' := 64) (ls' := [(0, .ref 32), (1, .int a)]) (st' := [.int 4, .int a, .ref 32, .int a, .ref 32]) (w' := (SH, S, T)) rfl ?_
        refine xj_E.calli (d := D1) (S := SH) rfl rfl rfl rfl rfl (xj_E.deep (ok_m_hasFlag (d := 0) hd.1 ?_) (by omega))
        intro v e
        subst e
        refine ⟨_, _, _, rfl, rfl, rfl, rfl, ?_⟩
        have hd := hd.2
        refine xj_E.adv 1 (pc' := (if xj_cmp .eq (r_m_hasFlag S a 4) 0 = true then 74 else 70)) (ls' := [(0, .ref 32), (1, .int a)]) (st' := [.int a, .ref 32]) (w' := (SH, S, T)) rfl ?_
        refine xj_E.b_eq (fun q => ?_) (fun q => ?_)
        · have hd := hd.1 q
          have h := fun v S9 e => h v S9 (Eq.trans e (if_pos q).symm)
          refine xj_E.adv 1 (pc' := 75) (ls' := [(0, .ref 32), (1, .int a)]) (st' := [.int 2, .int a, .ref 32]) (w' := (SH, S, T)) rfl ?_
          refine xj_E.callv (d := D1) (S := SH) rfl rfl rfl rfl rfl (ok_m_make (by omega) hd.1 ?_)
          intro v1 S1 e1
          refine ⟨_, _, rfl, rfl, rfl, rfl, ?_⟩
          have hd := hd.2
          rw [← e1] at hd h
          exact xj_E.ret rfl rfl rfl rfl (h _ _ rfl)
        · have hd := hd.2 q
          have h := fun v S9 e => h v S9 (Eq.trans e (if_neg q).symm)
          refine xj_E.adv 2 (pc' := 75) (ls' := [(0, .ref 32), (1, .int a)]) (st' := [.int 1, .int a, .ref 32]) (w' := (SH, S, T)) rfl ?_
          refine xj_E.callv (d := D1) (S := SH) rfl rfl rfl rfl rfl (ok_m_make (by omega) hd.1 ?_)
          intro v2 S2 e2
          refine ⟨_, _, rfl, rfl, rfl, rfl, ?_⟩
          have hd := hd.2
          rw [← e2] at hd h
          exact xj_E.ret rfl rfl rfl rfl (h _ _ rfl)
      · have hd := hd.2 q
        have h := fun v S9 e => h v S9 (Eq.trans e (if_neg q).symm)
        refine xj_E.adv 3 (pc' := 53) (ls' := [(0, .ref 32), (1, .int a)]) (st' := [.int 3, .int a, .ref 32]) (w' := (SH, S, T)) rfl ?_
        refine xj_E.callv (d := D1) (S := SH) rfl rfl rfl rfl rfl (ok_m_make (by omega) hd.1 ?_)
        intro v3 S3 e3
        refine ⟨_, _, rfl, rfl, rfl, rfl, ?_⟩
        have hd := hd.2
        rw [← e3] at hd h
        refine xj_E.adv 1 (pc' := 78) (ls' := [(0, .ref 32), (1, .int a)]) (st' := []) (w' := (SH, S3, T)) rfl ?_
        exact xj_E.ret rfl rfl rfl rfl (h _ _ rfl)
    · have hd := hd.2 q
      have h := fun v S9 e => h v S9 (Eq.trans e (if_neg q).symm)
      exact xj_E.ret rfl rfl rfl rfl (h _ _ rfl)
  · have hd := hd.2 q
    have h := fun v S9 e => h v S9 (Eq.trans e (if_neg q).symm)
    refine xj_E.adv 2 (pc' := 11) (ls' := [(0, .ref 32), (1, .int a)]) (st' := [.int a, .ref 32]) (w' := (SH, S, T)) rfl ?_
    refine xj_E.calli (d := D1) (S := SH) rfl rfl rfl rfl rfl (xj_E.deep (ok_m_hasEntry (d := 0) hd.1 ?_) (by omega))
    intro v e
    subst e
    refine ⟨_, _, _, rfl, rfl, rfl, rfl, ?_⟩
    have hd := hd.2
    refine xj_E.adv 1 (pc' := (if xj_cmp .eq (r_m_hasEntry S a) 0 = true then 33 else 17)) (ls' := [(0, .ref 32), (1, .int a)]) (st' := []) (w' := (SH, S, T)) rfl ?_
    refine xj_E.b_eq (fun q => ?_) (fun q => ?_)
    · have hd := hd.1 q
      have h := fun v S9 e => h v S9 (Eq.trans e (if_pos q).symm)
      refine xj_E.adv 3 (pc' := (if xj_cmp .eq (S 32 38) 0 = true then 41 else 40)) (ls' := [(0, .ref 32), (1, .int a)]) (st' := []) (w' := (SH, S, T)) rfl ?_
      refine xj_E.b_eq (fun q => ?_) (fun q => ?_)
      · have hd := hd.1 q
        have h := fun v S9 e => h v S9 (Eq.trans e (if_pos q).symm)
        refine xj_E.adv 2 (pc' := 43) (ls' := [(0, .ref 32), (1, .int a)]) (st' := [.int a, .ref 32]) (w' := (SH, S, T)) rfl ?_
        refine xj_E.calli (d := D1) (S := SH) rfl rfl rfl rfl rfl (xj_E.deep (ok_m_kindOf (d := 0) hd.1 ?_) (by omega))
        intro v e
        subst e
        refine ⟨_, _, _, rfl, rfl, rfl, rfl, ?_⟩
        have hd := hd.2
        refine xj_E.adv 2 (pc' := (if xj_cmp .ne (r_m_kindOf S a) 2 = true then 59 else 50)) (ls' := [(0, .ref 32), (1, .int a)]) (st' := []) (w' := (SH, S, T)) rfl ?_
        refine xj_E.b_ne (fun q => ?_) (fun q => ?_)
        · have hd := hd.1 q
          have h := fun v S9 e => h v S9 (Eq.trans e (if_pos q).symm)
          refine xj_E.adv 5 (pc' := 64) (ls' := [(0, .ref 32), (1, .int a)]) (st' := [.int 4, .int a, .ref 32, .int a, .ref 32]) (w' := (SH, S, T)) rfl ?_
          refine xj_E.calli (d := D1) (S := SH) rfl rfl rfl rfl rfl (xj_E.deep (ok_m_hasFlag (d := 0) hd.1 ?_) (by omega))
          intro v e
          subst e
          refine ⟨_, _, _, rfl, rfl, rfl, rfl, ?_⟩
          have hd := hd.2
          refine xj_E.adv 1 (pc' := (if xj_cmp .eq (r_m_hasFlag S a 4) 0 = true then 74 else 70)) (ls' := [(0, .ref 32), (1, .int a)]) (st' := [.int a, .ref 32]) (w' := (SH, S, T)) rfl ?_
          refine xj_E.b_eq (fun q => ?_) (fun q => ?_)
          · have hd := hd.1 q
            have h := fun v S9 e => h v S9 (Eq.trans e (if_pos q).symm)
            refine xj_E.adv 1 (pc' := 75) (ls' := [(0, .ref 32), (1, .int a)]) (st' := [.int 2, .int a, .ref 32]) (w' := (SH, S, T)) rfl ?_
            refine xj_E.callv (d := D1) (S := SH) rfl rfl rfl rfl rfl (ok_m_make (by omega) hd.1 ?_)
            intro v4 S4 e4
            refine ⟨_, _, rfl, rfl, rfl, rfl, ?_⟩
            have hd := hd.2
            rw [← e4] at hd h
            exact xj_E.ret rfl rfl rfl rfl (h _ _ rfl)
          · have hd := hd.2 q
            have h := fun v S9 e => h v S9 (Eq.trans e (if_neg q).symm)
            refine xj_E.adv 2 (pc' := 75) (ls' := [(0, .ref 32), (1, .int a)]) (st' := [.int 1, .int a, .ref 32]) (w' := (SH, S, T)) rfl ?_
            refine xj_E.callv (d := D1) (S := SH) rfl rfl rfl rfl rfl (ok_m_make (by omega) hd.1 ?_)
            intro v5 S5 e5
            refine ⟨_, _, rfl, rfl, rfl, rfl, ?_⟩
            have hd := hd.2
            rw [← e5] at hd h
            exact xj_E.ret rfl rfl rfl rfl (h _ _ rfl)
        · have hd := hd.2 q
          have h := fun v S9 e => h v S9 (Eq.trans e (if_neg q).symm)
          refine xj_E.adv 3 (pc' := 53) (ls' := [(0, .ref 32), (1, .int a)]) (st' := [.int 3, .int a, .ref 32]) (w' := (SH, S, T)) rfl ?_
          refine xj_E.callv (d := D1) (S := SH) rfl rfl rfl rfl rfl (ok_m_make (by omega) hd.1 ?_)
          intro v6 S6 e6
          refine ⟨_, _, rfl, rfl, rfl, rfl, ?_⟩
          have hd := hd.2
          rw [← e6] at hd h
          refine xj_E.adv 1 (pc' := 78) (ls' := [(0, .ref 32), (1, .int a)]) (st' := []) (w' := (SH, S6, T)) rfl ?_
          exact xj_E.ret rfl rfl rfl rfl (h _ _ rfl)
      · have hd := hd.2 q
        have h := fun v S9 e => h v S9 (Eq.trans e (if_neg q).symm)
        exact xj_E.ret rfl rfl rfl rfl (h _ _ rfl)
    · have hd := hd.2 q
      have h := fun v S9 e => h v S9 (Eq.trans e (if_neg q).symm)
      refine xj_E.adv 4 (pc' := 23) (ls' := [(0, .ref 32), (1, .int a)]) (st' := [.int a, .ref 45, .ref 32]) (w' := (SH, S, T)) rfl ?_
      refine xj_E.iald rfl rfl hd.1 ?_
      have hd := hd.2
      refine xj_E.adv 3 (pc' := 29) (ls' := [(0, .ref 32), (1, .int a)]) (st' := [.int a, .ref 46, .int (S 45 a.toNatClampNeg), .ref 32]) (w' := (SH, S, T)) rfl ?_
      refine xj_E.iald rfl rfl hd.1 ?_
      have hd := hd.2
      refine xj_E.callv (d := D1) (S := SH) rfl rfl rfl rfl rfl (ok_m_create (by omega) hd.1 ?_)
      intro v7 S7 e7
      refine ⟨_, _, rfl, rfl, rfl, rfl, ?_⟩
      have hd := hd.2
      rw [← e7] at hd h
      refine xj_E.adv 3 (pc' := (if xj_cmp .eq (S7 32 38) 0 = true then 41 else 40)) (ls' := [(0, .ref 32), (1, .int a)]) (st' := []) (w' := (SH, S7, T)) rfl ?_
      refine xj_E.b_eq (fun q => ?_) (fun q => ?_)
      · have hd := hd.1 q
        have h := fun v S9 e => h v S9 (Eq.trans e (if_pos q).symm)
        refine xj_E.adv 2 (pc' := 43) (ls' := [(0, .ref 32), (1, .int a)]) (st' := [.int a, .ref 32]) (w' := (SH, S7, T)) rfl ?_
        refine xj_E.calli (d := D1) (S := SH) rfl rfl rfl rfl rfl (xj_E.deep (ok_m_kindOf (d := 0) hd.1 ?_) (by omega))
        intro v e
        subst e
        refine ⟨_, _, _, rfl, rfl, rfl, rfl, ?_⟩
        have hd := hd.2
        refine xj_E.adv 2 (pc' := (if xj_cmp .ne (r_m_kindOf S7 a) 2 = true then 59 else 50)) (ls' := [(0, .ref 32), (1, .int a)]) (st' := []) (w' := (SH, S7, T)) rfl ?_
        refine xj_E.b_ne (fun q => ?_) (fun q => ?_)
        · have hd := hd.1 q
          have h := fun v S9 e => h v S9 (Eq.trans e (if_pos q).symm)
          refine xj_E.adv 5 (pc' := 64) (ls' := [(0, .ref 32), (1, .int a)]) (st' := [.int 4, .int a, .ref 32, .int a, .ref 32]) (w' := (SH, S7, T)) rfl ?_
          refine xj_E.calli (d := D1) (S := SH) rfl rfl rfl rfl rfl (xj_E.deep (ok_m_hasFlag (d := 0) hd.1 ?_) (by omega))
          intro v e
          subst e
          refine ⟨_, _, _, rfl, rfl, rfl, rfl, ?_⟩
          have hd := hd.2
          refine xj_E.adv 1 (pc' := (if xj_cmp .eq (r_m_hasFlag S7 a 4) 0 = true then 74 else 70)) (ls' := [(0, .ref 32), (1, .int a)]) (st' := [.int a, .ref 32]) (w' := (SH, S7, T)) rfl ?_
          refine xj_E.b_eq (fun q => ?_) (fun q => ?_)
          · have hd := hd.1 q
            have h := fun v S9 e => h v S9 (Eq.trans e (if_pos q).symm)
            refine xj_E.adv 1 (pc' := 75) (ls' := [(0, .ref 32), (1, .int a)]) (st' := [.int 2, .int a, .ref 32]) (w' := (SH, S7, T)) rfl ?_
            refine xj_E.callv (d := D1) (S := SH) rfl rfl rfl rfl rfl (ok_m_make (by omega) hd.1 ?_)
            intro v8 S8 e8
            refine ⟨_, _, rfl, rfl, rfl, rfl, ?_⟩
            have hd := hd.2
            rw [← e8] at hd h
            exact xj_E.ret rfl rfl rfl rfl (h _ _ rfl)
          · have hd := hd.2 q
            have h := fun v S9 e => h v S9 (Eq.trans e (if_neg q).symm)
            refine xj_E.adv 2 (pc' := 75) (ls' := [(0, .ref 32), (1, .int a)]) (st' := [.int 1, .int a, .ref 32]) (w' := (SH, S7, T)) rfl ?_
            refine xj_E.callv (d := D1) (S := SH) rfl rfl rfl rfl rfl (ok_m_make (by omega) hd.1 ?_)
            intro v9 S9 e9
            refine ⟨_, _, rfl, rfl, rfl, rfl, ?_⟩
            have hd := hd.2
            rw [← e9] at hd h
            exact xj_E.ret rfl rfl rfl rfl (h _ _ rfl)
        · have hd := hd.2 q
          have h := fun v S9 e => h v S9 (Eq.trans e (if_neg q).symm)
          refine xj_E.adv 3 (pc' := 53) (ls' := [(0, .ref 32), (1, .int a)]) (st' := [.int 3, .int a, .ref 32]) (w' := (SH, S7, T)) rfl ?_
          refine xj_E.callv (d := D1) (S := SH) rfl rfl rfl rfl rfl (ok_m_make (by omega) hd.1 ?_)
          intro v10 S10 e10
          refine ⟨_, _, rfl, rfl, rfl, rfl, ?_⟩
          have hd := hd.2
          rw [← e10] at hd h
          refine xj_E.adv 1 (pc' := 78) (ls' := [(0, .ref 32), (1, .int a)]) (st' := []) (w' := (SH, S10, T)) rfl ?_
          exact xj_E.ret rfl rfl rfl rfl (h _ _ rfl)
      · have hd := hd.2 q
        have h := fun v S9 e => h v S9 (Eq.trans e (if_neg q).symm)
        exact xj_E.ret rfl rfl rfl rfl (h _ _ rfl)
set_option maxHeartbeats 4000000 in
set_option maxRecDepth 100000 in
theorem okk_m_workOff {L : Nat} {xs : Nat → Int32} {T : Nat → Nat → Int64} (n : Nat) : (∀ (u1 : Int32) S D (P : (Option Value ⊕ Nat) → xj_W → Nat → Nat → Prop), 7 ≤ D → dk_m_workOff n u1 S → (∀ v S9, (v, S9) = fk_m_workOff n u1 S → P (.inl none) (SH, S9, T) 0 0) → xj_E (xX L xs) D 97 2 [(0, .ref 32), (1, .int u1)] [] (SH, S, T) P) := by
  induction n with
  | zero => exact fun _ _ _ _ _ hd _ => hd.elim
  | succ n ih =>
    refine ?_
    · intro u1 S D P hD hd h
      obtain ⟨D1, rfl⟩ : ∃ D1, D = D1 + 1 := ⟨D - 1, by omega⟩
      refine xj_E.adv 2 (pc' := (if xj_cmp .eq u1 0 = true then 77 else 6)) (ls' := [(0, .ref 32), (1, .int u1)]) (st' := []) (w' := (SH, S, T)) rfl ?_
      refine xj_E.b_eq (fun q => ?_) (fun q => ?_)
      · have hd := hd.1 q
        have h := fun v S9 e => h v S9 (Eq.trans e (if_pos q).symm)
        exact xj_E.ret rfl rfl rfl rfl (h _ _ rfl)
      · have hd := hd.2 q
        have h := fun v S9 e => h v S9 (Eq.trans e (if_neg q).symm)
        refine xj_E.adv 3 (pc' := (if xj_cmp .ne (S 32 38) 0 = true then 77 else 13)) (ls' := [(0, .ref 32), (1, .int u1)]) (st' := []) (w' := (SH, S, T)) rfl ?_
        refine xj_E.b_ne (fun q => ?_) (fun q => ?_)
        · have hd := hd.1 q
          have h := fun v S9 e => h v S9 (Eq.trans e (if_pos q).symm)
          exact xj_E.ret rfl rfl rfl rfl (h _ _ rfl)
        · have hd := hd.2 q
          have h := fun v S9 e => h v S9 (Eq.trans e (if_neg q).symm)
          refine xj_E.adv 1 (pc' := 14) (ls' := [(0, .ref 32), (1, .int u1)]) (st' := [.ref 32]) (w' := (SH, S, T)) rfl ?_
          refine xj_E.calli (d := D1) (S := SH) rfl rfl rfl rfl rfl (xj_E.deep (ok_m_toExit (d := 0) hd.1 ?_) (by omega))
          intro v e
          subst e
          refine ⟨_, _, _, rfl, rfl, rfl, rfl, ?_⟩
          have hd := hd.2
          refine xj_E.adv 3 (pc' := (if xj_cmp .lt (r_m_toExit S) 0 = true then 32 else 22)) (ls' := [(2, .int (r_m_toExit S)), (0, .ref 32), (1, .int u1)]) (st' := []) (w' := (SH, S, T)) rfl ?_
          refine xj_E.b_lt (fun q => ?_) (fun q => ?_)
          · have hd := hd.1 q
            have h := fun v S9 e => h v S9 (Eq.trans e (if_pos q).symm)
            refine xj_E.adv 1 (pc' := 33) (ls' := [(2, .int (r_m_toExit S)), (0, .ref 32), (1, .int u1)]) (st' := [.ref 32]) (w' := (SH, S, T)) rfl ?_
            refine xj_E.calli (d := D1) (S := SH) rfl rfl rfl rfl rfl (xj_E.deep (ok_m_toLetIn (d := 0) hd.1 ?_) (by omega))
            intro v e
            subst e
            refine ⟨_, _, _, rfl, rfl, rfl, rfl, ?_⟩
            have hd := hd.2
            refine xj_E.adv 3 (pc' := (if xj_cmp .lt (r_m_toLetIn S) 0 = true then 49 else 41)) (ls' := [(2, .int (r_m_toLetIn S)), (0, .ref 32), (1, .int u1)]) (st' := []) (w' := (SH, S, T)) rfl ?_
            refine xj_E.b_lt (fun q => ?_) (fun q => ?_)
            · have hd := hd.1 q
              have h := fun v S9 e => h v S9 (Eq.trans e (if_pos q).symm)
              refine xj_E.adv 1 (pc' := 50) (ls' := [(2, .int (r_m_toLetIn S)), (0, .ref 32), (1, .int u1)]) (st' := [.ref 32]) (w' := (SH, S, T)) rfl ?_
              refine xj_E.calli (d := D1) (S := SH) rfl rfl rfl rfl rfl (xj_E.deep (ok_m_toComplete (d := 0) hd.1 ?_) (by omega))
              intro v e
              subst e
              refine ⟨_, _, _, rfl, rfl, rfl, rfl, ?_⟩
              have hd := hd.2
              refine xj_E.adv 3 (pc' := (if xj_cmp .lt (r_m_toComplete S) 0 = true then 62 else 58)) (ls' := [(2, .int (r_m_toComplete S)), (0, .ref 32), (1, .int u1)]) (st' := []) (w' := (SH, S, T)) rfl ?_
              refine xj_E.b_lt (fun q => ?_) (fun q => ?_)
              · have hd := hd.1 q
                have h := fun v S9 e => h v S9 (Eq.trans e (if_pos q).symm)
                refine xj_E.adv 5 (pc' := 2) (ls' := [(1, .int 0), (2, .int (r_m_toComplete S)), (0, .ref 32)]) (st' := []) (w' := (SH, S, T)) rfl ?_
                refine xj_E.loc [0, 1] xhth rfl (show xj_E (xX L xs) (D1 + 1) 97 2 [(0, .ref 32), (1, .int 0)] [] (SH, S, T) P from ?_)
                exact (ih) _ _ _ _ (by omega) hd h
              · have hd := hd.2 q
                have h := fun v S9 e => h v S9 (Eq.trans e (if_neg q).symm)
                refine xj_E.adv 8 (pc' := 71) (ls' := [(1, .int 1), (2, .int (r_m_toComplete S)), (0, .ref 32)]) (st' := [.int 4, .int (r_m_toComplete S), .ref 32]) (w' := (SH, S, T)) rfl ?_
                refine xj_E.callv (d := D1) (S := SH) rfl rfl rfl rfl rfl (ok_m_make (by omega) hd.1 ?_)
                intro v1 S1 e1
                refine ⟨_, _, rfl, rfl, rfl, rfl, ?_⟩
                have hd := hd.2
                rw [← e1] at hd h
                refine xj_E.adv 1 (pc' := 2) (ls' := [(1, .int 1), (2, .int (r_m_toComplete S)), (0, .ref 32)]) (st' := []) (w' := (SH, S1, T)) rfl ?_
                refine xj_E.loc [0, 1] xhth rfl (show xj_E (xX L xs) (D1 + 1) 97 2 [(0, .ref 32), (1, .int 1)] [] (SH, S1, T) P from ?_)
                exact (ih) _ _ _ _ (by omega) hd h
            · have hd := hd.2 q
              have h := fun v S9 e => h v S9 (Eq.trans e (if_neg q).symm)
              refine xj_E.adv 2 (pc' := 43) (ls' := [(2, .int (r_m_toLetIn S)), (0, .ref 32), (1, .int u1)]) (st' := [.int (r_m_toLetIn S), .ref 32]) (w' := (SH, S, T)) rfl ?_
              refine xj_E.callv (d := D1) (S := SH) rfl rfl rfl rfl rfl (ok_m_letIn (by omega) hd.1 ?_)
              intro v2 S2 e2
              refine ⟨_, _, rfl, rfl, rfl, rfl, ?_⟩
              have hd := hd.2
              rw [← e2] at hd h
              refine xj_E.adv 1 (pc' := 2) (ls' := [(2, .int (r_m_toLetIn S)), (0, .ref 32), (1, .int u1)]) (st' := []) (w' := (SH, S2, T)) rfl ?_
              refine xj_E.loc [0, 1] xhth rfl (show xj_E (xX L xs) (D1 + 1) 97 2 [(0, .ref 32), (1, .int u1)] [] (SH, S2, T) P from ?_)
              exact (ih) _ _ _ _ (by omega) hd h
          · have hd := hd.2 q
            have h := fun v S9 e => h v S9 (Eq.trans e (if_neg q).symm)
            refine xj_E.adv 3 (pc' := 26) (ls' := [(2, .int (r_m_toExit S)), (0, .ref 32), (1, .int u1)]) (st' := [.int 9, .int (r_m_toExit S), .ref 32]) (w' := (SH, S, T)) rfl ?_
            refine xj_E.callv (d := D1) (S := SH) rfl rfl rfl rfl rfl (ok_m_make (by omega) hd.1 ?_)
            intro v3 S3 e3
            refine ⟨_, _, rfl, rfl, rfl, rfl, ?_⟩
            have hd := hd.2
            rw [← e3] at hd h
            refine xj_E.adv 1 (pc' := 2) (ls' := [(2, .int (r_m_toExit S)), (0, .ref 32), (1, .int u1)]) (st' := []) (w' := (SH, S3, T)) rfl ?_
            refine xj_E.loc [0, 1] xhth rfl (show xj_E (xX L xs) (D1 + 1) 97 2 [(0, .ref 32), (1, .int u1)] [] (SH, S3, T) P from ?_)
            exact (ih) _ _ _ _ (by omega) hd h
set_option maxHeartbeats 4000000 in
set_option maxRecDepth 100000 in
theorem ok_m_workOff {L : Nat} {xs : Nat → Int32} {T : Nat → Nat → Int64} {D : Nat} {S : (Nat → Nat → Int32)} {P : (Option Value ⊕ Nat) → xj_W → Nat → Nat → Prop} (hD : 7 ≤ D) (hd : d_m_workOff  S) (h : ∀ v S9, (v, S9) = f_m_workOff  S → P (.inl none) (SH, S9, T) 0 0) : xj_E (xX L xs) D 97 0 [(0, .ref 32)] [] (SH, S, T) P := by
  unfold d_m_workOff at hd
  unfold f_m_workOff at h
  refine xj_E.adv 2 (pc' := 2) (ls' := [(1, .int 1), (0, .ref 32)]) (st' := []) (w' := (SH, S, T)) rfl ?_
  refine xj_E.loc [0, 1] xhth rfl (show xj_E (xX L xs) D 97 2 [(0, .ref 32), (1, .int 1)] [] (SH, S, T) P from ?_)
  exact ((okk_m_workOff 200)) _ _ _ _ (by omega) hd h
set_option maxHeartbeats 4000000 in
set_option maxRecDepth 100000 in
theorem ok_m_finish {L : Nat} {xs : Nat → Int32} {T : Nat → Nat → Int64} {D : Nat} {S : (Nat → Nat → Int32)} {P : (Option Value ⊕ Nat) → xj_W → Nat → Nat → Prop} {a : Int32} (hD : 8 ≤ D) (hd : d_m_finish a S) (h : ∀ v S9, (v, S9) = f_m_finish a S → P (.inl (some (.int v))) (SH, S9, T) 0 0) : xj_E (xX L xs) D 100 0 [(0, .ref 32), (1, .int a)] [] (SH, S, T) P := by
  unfold d_m_finish at hd
  unfold f_m_finish at h
  obtain ⟨D1, rfl⟩ : ∃ D1, D = D1 + 1 := ⟨D - 1, by omega⟩
  refine xj_E.adv 1 (pc' := 1) (ls' := [(0, .ref 32), (1, .int a)]) (st' := [.ref 32]) (w' := (SH, S, T)) rfl ?_
  refine xj_E.callv (d := D1) (S := SH) rfl rfl rfl rfl rfl (ok_m_workOff (by omega) hd.1 ?_)
  intro v1 S1 e1
  refine ⟨_, _, rfl, rfl, rfl, rfl, ?_⟩
  have hd := hd.2
  rw [← e1] at hd h
  refine xj_E.adv 3 (pc' := (if xj_cmp .ne (S1 32 38) 0 = true then 16 else 11)) (ls' := [(0, .ref 32), (1, .int a)]) (st' := []) (w' := (SH, S1, T)) rfl ?_
  refine xj_E.b_ne (fun q => ?_) (fun q => ?_)
  · have hd := hd.1 q
    have h := fun v S9 e => h v S9 (Eq.trans e (if_pos q).symm)
    refine xj_E.adv 1 (pc' := 17) (ls' := [(0, .ref 32), (1, .int a)]) (st' := [.ref 32]) (w' := (SH, S1, T)) rfl ?_
    refine xj_E.callv (d := D1) (S := SH) rfl rfl rfl rfl rfl (ok_m_putBack (by omega) hd.1 ?_)
    intro v2 S2 e2
    refine ⟨_, _, rfl, rfl, rfl, rfl, ?_⟩
    have hd := hd.2
    rw [← e2] at hd h
    refine xj_E.adv 2 (pc' := 22) (ls' := [(0, .ref 32), (1, .int a)]) (st' := [.int a, .ref 32]) (w' := (SH, S2, T)) rfl ?_
    refine xj_E.calli (d := D1) (S := SH) rfl rfl rfl rfl rfl (ok_m_fail (by omega) hd.1 ?_)
    intro v3 S3 e3
    refine ⟨_, _, _, rfl, rfl, rfl, rfl, ?_⟩
    have hd := hd.2
    rw [← e3] at hd h
    exact xj_E.ret rfl rfl rfl rfl (h _ _ rfl)
  · have hd := hd.2 q
    have h := fun v S9 e => h v S9 (Eq.trans e (if_neg q).symm)
    refine xj_E.adv 2 (pc' := 15) (ls' := [(0, .ref 32), (1, .int a)]) (st' := [.int (S1 32 37)]) (w' := (SH, S1, T)) rfl ?_
    exact xj_E.ret rfl rfl rfl rfl (h _ _ rfl)
set_option maxHeartbeats 4000000 in
set_option maxRecDepth 100000 in
theorem ok_m_begin {L : Nat} {xs : Nat → Int32} {T : Nat → Nat → Int64} {D : Nat} {S : (Nat → Nat → Int32)} {P : (Option Value ⊕ Nat) → xj_W → Nat → Nat → Prop} {a : Int32} (hD : 9 ≤ D) (hd : d_m_begin a S) (h : ∀ v S9, (v, S9) = f_m_begin a S → P (.inl (some (.int v))) (SH, S9, T) 0 0) : xj_E (xX L xs) D 101 0 [(0, .ref 32), (1, .int a)] [] (SH, S, T) P := by
  unfold d_m_begin at hd
  unfold f_m_begin at h
  obtain ⟨D1, rfl⟩ : ∃ D1, D = D1 + 1 := ⟨D - 1, by omega⟩
  refine xj_E.adv 6 (pc' := (if xj_cmp .eq (S 32 15) 0 = true then 18 else 12)) (ls' := [(0, .ref 32), (1, .int a)]) (st' := []) (w' := (SH, (xj_set S 32 0 0), T)) rfl ?_
  refine xj_E.b_eq (fun q => ?_) (fun q => ?_)
  · have hd := hd.1 q
    have h := fun v S9 e => h v S9 (Eq.trans e (if_pos q).symm)
    refine xj_E.adv 3 (pc' := (if xj_cmp .lt a 2 = true then 29 else 23)) (ls' := [(0, .ref 32), (1, .int a)]) (st' := []) (w' := (SH, (xj_set S 32 0 0), T)) rfl ?_
    refine xj_E.b_lt (fun q => ?_) (fun q => ?_)
    · have hd := hd.1 q
      have h := fun v S9 e => h v S9 (Eq.trans e (if_pos q).symm)
      refine xj_E.adv 2 (pc' := 31) (ls' := [(0, .ref 32), (1, .int a)]) (st' := [.int 2, .ref 32]) (w' := (SH, (xj_set S 32 0 0), T)) rfl ?_
      refine xj_E.calli (d := D1) (S := SH) rfl rfl rfl rfl rfl (ok_m_fail (by omega) hd.1 ?_)
      intro v1 S1 e1
      refine ⟨_, _, _, rfl, rfl, rfl, rfl, ?_⟩
      have hd := hd.2
      rw [← e1] at hd h
      exact xj_E.ret rfl rfl rfl rfl (h _ _ rfl)
    · have hd := hd.2 q
      have h := fun v S9 e => h v S9 (Eq.trans e (if_neg q).symm)
      refine xj_E.adv 3 (pc' := (if xj_cmp .le a 60 = true then 35 else 29)) (ls' := [(0, .ref 32), (1, .int a)]) (st' := []) (w' := (SH, (xj_set S 32 0 0), T)) rfl ?_
      refine xj_E.b_le (fun q => ?_) (fun q => ?_)
      · have hd := hd.1 q
        have h := fun v S9 e => h v S9 (Eq.trans e (if_pos q).symm)
        refine xj_E.adv 4 (pc' := 41) (ls' := [(0, .ref 32), (1, .int a)]) (st' := [.ref 32]) (w' := (SH, (xj_set (xj_set S 32 0 0) 32 16 a), T)) rfl ?_
        refine xj_E.callv (d := D1) (S := SH) rfl rfl rfl rfl rfl (ok_m_keep (by omega) hd.1 ?_)
        intro v2 S2 e2
        refine ⟨_, _, rfl, rfl, rfl, rfl, ?_⟩
        have hd := hd.2
        rw [← e2] at hd h
        refine xj_E.adv 3 (pc' := 47) (ls' := [(0, .ref 32), (1, .int a)]) (st' := [.int (-1), .int 0, .ref 32]) (w' := (SH, S2, T)) rfl ?_
        refine xj_E.callv (d := D1) (S := SH) rfl rfl rfl rfl rfl (ok_m_create (by omega) hd.1 ?_)
        intro v3 S3 e3
        refine ⟨_, _, rfl, rfl, rfl, rfl, ?_⟩
        have hd := hd.2
        rw [← e3] at hd h
        refine xj_E.adv 3 (pc' := 53) (ls' := [(0, .ref 32), (1, .int a)]) (st' := [.int 2, .int 0, .ref 32]) (w' := (SH, S3, T)) rfl ?_
        refine xj_E.callv (d := D1) (S := SH) rfl rfl rfl rfl rfl (ok_m_make (by omega) hd.1 ?_)
        intro v4 S4 e4
        refine ⟨_, _, rfl, rfl, rfl, rfl, ?_⟩
        have hd := hd.2
        rw [← e4] at hd h
        refine xj_E.adv 2 (pc' := 58) (ls' := [(0, .ref 32), (1, .int a)]) (st' := [.int 3, .ref 32]) (w' := (SH, S4, T)) rfl ?_
        refine xj_E.calli (d := D1) (S := SH) rfl rfl rfl rfl rfl (ok_m_finish (by omega) hd.1 ?_)
        intro v5 S5 e5
        refine ⟨_, _, _, rfl, rfl, rfl, rfl, ?_⟩
        have hd := hd.2
        rw [← e5] at hd h
        refine xj_E.adv 5 (pc' := (if xj_cmp .ne (S5 32 38) 0 = true then 74 else 70)) (ls' := [(2, .int v5), (0, .ref 32), (1, .int a)]) (st' := [.ref 32]) (w' := (SH, S5, T)) rfl ?_
        refine xj_E.b_ne (fun q => ?_) (fun q => ?_)
        · have hd := hd.1 q
          have h := fun v S9 e => h v S9 (Eq.trans e (if_pos q).symm)
          refine xj_E.adv 3 (pc' := 79) (ls' := [(2, .int v5), (0, .ref 32), (1, .int a)]) (st' := [.int v5]) (w' := (SH, (xj_set S5 32 15 0), T)) rfl ?_
          exact xj_E.ret rfl rfl rfl rfl (h _ _ rfl)
        · have hd := hd.2 q
          have h := fun v S9 e => h v S9 (Eq.trans e (if_neg q).symm)
          refine xj_E.adv 4 (pc' := 79) (ls' := [(2, .int v5), (0, .ref 32), (1, .int a)]) (st' := [.int v5]) (w' := (SH, (xj_set S5 32 15 1), T)) rfl ?_
          exact xj_E.ret rfl rfl rfl rfl (h _ _ rfl)
      · have hd := hd.2 q
        have h := fun v S9 e => h v S9 (Eq.trans e (if_neg q).symm)
        refine xj_E.adv 2 (pc' := 31) (ls' := [(0, .ref 32), (1, .int a)]) (st' := [.int 2, .ref 32]) (w' := (SH, (xj_set S 32 0 0), T)) rfl ?_
        refine xj_E.calli (d := D1) (S := SH) rfl rfl rfl rfl rfl (ok_m_fail (by omega) hd.1 ?_)
        intro v6 S6 e6
        refine ⟨_, _, _, rfl, rfl, rfl, rfl, ?_⟩
        have hd := hd.2
        rw [← e6] at hd h
        exact xj_E.ret rfl rfl rfl rfl (h _ _ rfl)
  · have hd := hd.2 q
    have h := fun v S9 e => h v S9 (Eq.trans e (if_neg q).symm)
    refine xj_E.adv 2 (pc' := 14) (ls' := [(0, .ref 32), (1, .int a)]) (st' := [.int 1, .ref 32]) (w' := (SH, (xj_set S 32 0 0), T)) rfl ?_
    refine xj_E.calli (d := D1) (S := SH) rfl rfl rfl rfl rfl (ok_m_fail (by omega) hd.1 ?_)
    intro v7 S7 e7
    refine ⟨_, _, _, rfl, rfl, rfl, rfl, ?_⟩
    have hd := hd.2
    rw [← e7] at hd h
    exact xj_E.ret rfl rfl rfl rfl (h _ _ rfl)
set_option maxHeartbeats 4000000 in
set_option maxRecDepth 100000 in
theorem ok_m_move {L : Nat} {xs : Nat → Int32} {T : Nat → Nat → Int64} {D : Nat} {S : (Nat → Nat → Int32)} {P : (Option Value ⊕ Nat) → xj_W → Nat → Nat → Prop} {a b : Int32} (hD : 9 ≤ D) (hd : d_m_move a b S) (h : ∀ v S9, (v, S9) = f_m_move a b S → P (.inl (some (.int v))) (SH, S9, T) 0 0) : xj_E (xX L xs) D 104 0 [(0, .ref 32), (1, .int a), (2, .int b)] [] (SH, S, T) P := by
  unfold d_m_move at hd
  unfold f_m_move at h
  obtain ⟨D1, rfl⟩ : ∃ D1, D = D1 + 1 := ⟨D - 1, by omega⟩
  refine xj_E.adv 4 (pc' := 4) (ls' := [(0, .ref 32), (1, .int a), (2, .int b)]) (st' := [.int b, .int a, .ref 32, .ref 32]) (w' := (SH, S, T)) rfl ?_
  refine xj_E.calli (d := D1) (S := SH) rfl rfl rfl rfl rfl (xj_E.deep (ok_m_refusal (d := 0) hd.1 ?_) (by omega))
  intro v e
  subst e
  refine ⟨_, _, _, rfl, rfl, rfl, rfl, ?_⟩
  have hd := hd.2
  refine xj_E.adv 4 (pc' := (if xj_cmp .eq (r_m_refusal S a b) 0 = true then 19 else 17)) (ls' := [(0, .ref 32), (1, .int a), (2, .int b)]) (st' := []) (w' := (SH, (xj_set S 32 0 (r_m_refusal S a b)), T)) rfl ?_
  refine xj_E.b_eq (fun q => ?_) (fun q => ?_)
  · have hd := hd.1 q
    have h := fun v S9 e => h v S9 (Eq.trans e (if_pos q).symm)
    refine xj_E.adv 1 (pc' := 20) (ls' := [(0, .ref 32), (1, .int a), (2, .int b)]) (st' := [.ref 32]) (w' := (SH, (xj_set S 32 0 (r_m_refusal S a b)), T)) rfl ?_
    refine xj_E.callv (d := D1) (S := SH) rfl rfl rfl rfl rfl (ok_m_keep (by omega) hd.1 ?_)
    intro v1 S1 e1
    refine ⟨_, _, rfl, rfl, rfl, rfl, ?_⟩
    have hd := hd.2
    rw [← e1] at hd h
    refine xj_E.adv 3 (pc' := 26) (ls' := [(0, .ref 32), (1, .int a), (2, .int b)]) (st' := [.int b, .int a, .ref 32]) (w' := (SH, S1, T)) rfl ?_
    refine xj_E.callv (d := D1) (S := SH) rfl rfl rfl rfl rfl (ok_m_make (by omega) hd.1 ?_)
    intro v2 S2 e2
    refine ⟨_, _, rfl, rfl, rfl, rfl, ?_⟩
    have hd := hd.2
    rw [← e2] at hd h
    refine xj_E.adv 2 (pc' := 31) (ls' := [(0, .ref 32), (1, .int a), (2, .int b)]) (st' := [.int 4, .ref 32]) (w' := (SH, S2, T)) rfl ?_
    refine xj_E.calli (d := D1) (S := SH) rfl rfl rfl rfl rfl (ok_m_finish (by omega) hd.1 ?_)
    intro v3 S3 e3
    refine ⟨_, _, _, rfl, rfl, rfl, rfl, ?_⟩
    have hd := hd.2
    rw [← e3] at hd h
    exact xj_E.ret rfl rfl rfl rfl (h _ _ rfl)
  · have hd := hd.2 q
    have h := fun v S9 e => h v S9 (Eq.trans e (if_neg q).symm)
    refine xj_E.adv 1 (pc' := 18) (ls' := [(0, .ref 32), (1, .int a), (2, .int b)]) (st' := [.int 0]) (w' := (SH, (xj_set S 32 0 (r_m_refusal S a b)), T)) rfl ?_
    exact xj_E.ret rfl rfl rfl rfl (h _ _ rfl)
set_option maxHeartbeats 4000000 in
set_option maxRecDepth 100000 in
theorem ok_m_set {L : Nat} {xs : Nat → Int32} {T : Nat → Nat → Int64} {D : Nat} {S : (Nat → Nat → Int32)} {P : (Option Value ⊕ Nat) → xj_W → Nat → Nat → Prop} {a b : Int32} (hD : 9 ≤ D) (hd : d_m_set a b S) (h : ∀ v S9, (v, S9) = f_m_set a b S → P (.inl (some (.int v))) (SH, S9, T) 0 0) : xj_E (xX L xs) D 107 0 [(0, .ref 32), (1, .int a), (2, .int b)] [] (SH, S, T) P := by
  unfold d_m_set at hd
  unfold f_m_set at h
  obtain ⟨D1, rfl⟩ : ∃ D1, D = D1 + 1 := ⟨D - 1, by omega⟩
  refine xj_E.adv 5 (pc' := 7) (ls' := [(0, .ref 32), (1, .int a), (2, .int b)]) (st' := [.int 3, .int a]) (w' := (SH, (xj_set S 32 0 0), T)) rfl ?_
  refine xj_E.calli (d := D1) (S := SH) rfl rfl rfl rfl rfl (xj_E.deep (ok_m_within (d := 0) hd.1 ?_) (by omega))
  intro v e
  subst e
  refine ⟨_, _, _, rfl, rfl, rfl, rfl, ?_⟩
  have hd := hd.2
  refine xj_E.adv 1 (pc' := (if xj_cmp .ne (r_m_within (xj_set S 32 0 0) a 3) 0 = true then 19 else 13)) (ls' := [(0, .ref 32), (1, .int a), (2, .int b)]) (st' := []) (w' := (SH, (xj_set S 32 0 0), T)) rfl ?_
  refine xj_E.b_ne (fun q => ?_) (fun q => ?_)
  · have hd := hd.1 q
    have h := fun v S9 e => h v S9 (Eq.trans e (if_pos q).symm)
    refine xj_E.adv 3 (pc' := (if xj_cmp .ne (S 32 15) 0 = true then 35 else 26)) (ls' := [(0, .ref 32), (1, .int a), (2, .int b)]) (st' := []) (w' := (SH, (xj_set S 32 0 0), T)) rfl ?_
    refine xj_E.b_ne (fun q => ?_) (fun q => ?_)
    · have hd := hd.1 q
      have h := fun v S9 e => h v S9 (Eq.trans e (if_pos q).symm)
      refine xj_E.adv 1 (pc' := 36) (ls' := [(0, .ref 32), (1, .int a), (2, .int b)]) (st' := [.ref 32]) (w' := (SH, (xj_set S 32 0 0), T)) rfl ?_
      refine xj_E.callv (d := D1) (S := SH) rfl rfl rfl rfl rfl (ok_m_keep (by omega) hd.1 ?_)
      intro v1 S1 e1
      refine ⟨_, _, rfl, rfl, rfl, rfl, ?_⟩
      have hd := hd.2
      rw [← e1] at hd h
      refine xj_E.adv 3 (pc' := 44) (ls' := [(0, .ref 32), (1, .int a), (2, .int b)]) (st' := [.int a, .ref 50]) (w' := (SH, S1, T)) rfl ?_
      refine xj_E.iald rfl rfl hd.1 ?_
      have hd := hd.2
      refine xj_E.adv 2 (pc' := (if xj_cmp .eq (S1 50 a.toNatClampNeg) b = true then 54 else 49)) (ls' := [(0, .ref 32), (1, .int a), (2, .int b)]) (st' := []) (w' := (SH, S1, T)) rfl ?_
      refine xj_E.b_eq (fun q => ?_) (fun q => ?_)
      · have hd := hd.1 q
        have h := fun v S9 e => h v S9 (Eq.trans e (if_pos q).symm)
        refine xj_E.adv 4 (pc' := 60) (ls' := [(0, .ref 32), (1, .int a), (2, .int b)]) (st' := [.int b, .int a, .ref 50]) (w' := (SH, S1, T)) rfl ?_
        refine xj_E.iast rfl rfl hd.1 ?_
        have hd := hd.2
        refine xj_E.adv 2 (pc' := 63) (ls' := [(0, .ref 32), (1, .int a), (2, .int b)]) (st' := [.int 2, .ref 32]) (w' := (SH, (xj_set S1 50 a.toNatClampNeg b), T)) rfl ?_
        refine xj_E.calli (d := D1) (S := SH) rfl rfl rfl rfl rfl (ok_m_finish (by omega) hd.1 ?_)
        intro v2 S2 e2
        refine ⟨_, _, _, rfl, rfl, rfl, rfl, ?_⟩
        have hd := hd.2
        rw [← e2] at hd h
        exact xj_E.ret rfl rfl rfl rfl (h _ _ rfl)
      · have hd := hd.2 q
        have h := fun v S9 e => h v S9 (Eq.trans e (if_neg q).symm)
        refine xj_E.adv 2 (pc' := 51) (ls' := [(0, .ref 32), (1, .int a), (2, .int b)]) (st' := [.int a, .ref 32]) (w' := (SH, S1, T)) rfl ?_
        refine xj_E.callv (d := D1) (S := SH) rfl rfl rfl rfl rfl (ok_m_markVariable (by omega) hd.1 ?_)
        intro v3 S3 e3
        refine ⟨_, _, rfl, rfl, rfl, rfl, ?_⟩
        have hd := hd.2
        rw [← e3] at hd h
        refine xj_E.adv 4 (pc' := 60) (ls' := [(0, .ref 32), (1, .int a), (2, .int b)]) (st' := [.int b, .int a, .ref 50]) (w' := (SH, S3, T)) rfl ?_
        refine xj_E.iast rfl rfl hd.1 ?_
        have hd := hd.2
        refine xj_E.adv 2 (pc' := 63) (ls' := [(0, .ref 32), (1, .int a), (2, .int b)]) (st' := [.int 2, .ref 32]) (w' := (SH, (xj_set S3 50 a.toNatClampNeg b), T)) rfl ?_
        refine xj_E.calli (d := D1) (S := SH) rfl rfl rfl rfl rfl (ok_m_finish (by omega) hd.1 ?_)
        intro v4 S4 e4
        refine ⟨_, _, _, rfl, rfl, rfl, rfl, ?_⟩
        have hd := hd.2
        rw [← e4] at hd h
        exact xj_E.ret rfl rfl rfl rfl (h _ _ rfl)
    · have hd := hd.2 q
      have h := fun v S9 e => h v S9 (Eq.trans e (if_neg q).symm)
      refine xj_E.adv 4 (pc' := 32) (ls' := [(0, .ref 32), (1, .int a), (2, .int b)]) (st' := [.int b, .int a, .ref 50]) (w' := (SH, (xj_set S 32 0 0), T)) rfl ?_
      refine xj_E.iast rfl rfl hd.1 ?_
      have hd := hd.2
      refine xj_E.adv 1 (pc' := 34) (ls' := [(0, .ref 32), (1, .int a), (2, .int b)]) (st' := [.int 0]) (w' := (SH, (xj_set (xj_set S 32 0 0) 50 a.toNatClampNeg b), T)) rfl ?_
      exact xj_E.ret rfl rfl rfl rfl (h _ _ rfl)
  · have hd := hd.2 q
    have h := fun v S9 e => h v S9 (Eq.trans e (if_neg q).symm)
    refine xj_E.adv 2 (pc' := 15) (ls' := [(0, .ref 32), (1, .int a), (2, .int b)]) (st' := [.int 1, .ref 32]) (w' := (SH, (xj_set S 32 0 0), T)) rfl ?_
    refine xj_E.calli (d := D1) (S := SH) rfl rfl rfl rfl rfl (ok_m_fail (by omega) hd.1 ?_)
    intro v5 S5 e5
    refine ⟨_, _, _, rfl, rfl, rfl, rfl, ?_⟩
    have hd := hd.2
    rw [← e5] at hd h
    exact xj_E.ret rfl rfl rfl rfl (h _ _ rfl)
