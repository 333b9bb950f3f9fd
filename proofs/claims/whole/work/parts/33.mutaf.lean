/-! methods that store: our machine does so -/
seal f_l_copyFrom14 d_l_copyFrom14 f_l_copyFrom23 d_l_copyFrom23 f_l_add d_l_add f_l_note d_l_note f_p_addItem d_p_addItem f_p_addSentry d_p_addSentry f_p_addPart d_p_addPart f_p_putIfPart d_p_putIfPart f_c_openCommand d_c_openCommand f_c_mark d_c_mark f_m_fail d_m_fail f_m_item d_m_item f_m_sentry d_m_sentry f_m_on d_m_on f_m_when d_m_when f_m_book d_m_book f_m_mark d_m_mark f_m_create d_m_create f_m_again d_m_again f_m_keep d_m_keep f_m_putBack d_m_putBack f_m_can d_m_can f_m_markVariable d_m_markVariable f_m_value d_m_value f_m_instances d_m_instances f_m_instance d_m_instance f_m_marked d_m_marked f_m_moves d_m_moves f_m_history d_m_history f_c_markSiblings d_c_markSiblings f_c_markAll d_c_markAll f_m_enter d_m_enter f_m_make d_m_make f_m_letIn d_m_letIn f_m_workOff d_m_workOff f_m_finish d_m_finish f_m_begin d_m_begin f_m_move d_m_move f_m_set d_m_set f_c_create d_c_create f_c_make d_c_make f_c_moveWhatIsIn d_c_moveWhatIsIn f_c_createWhatIsIn d_c_createWhatIsIn f_c_exitChildren d_c_exitChildren f_c_moveChildren d_c_moveChildren f_c_repeat d_c_repeat f_c_letIn d_c_letIn f_c_item d_c_item f_c_sentry d_c_sentry f_c_on d_c_on f_c_when d_c_when f_c_workOff d_c_workOff f_c_begin d_c_begin f_c_move d_c_move f_c_set d_c_set
set_option maxHeartbeats 4000000 in
set_option maxRecDepth 100000 in
theorem okk_c_all {L : Nat} {xs : Nat → Int32} {T : Nat → Nat → Int64} (n : Nat) : (∀ (u1 : Int32) (u2 : Int32) (u3 : Int32) S D (P : (Option Value ⊕ Nat) → xj_W → Nat → Nat → Prop), 3 + n ≤ D → (dk_c_all n).1 u1 u2 u3 S → (∀ v S9, (v, S9) = (fk_c_all n).1 u1 u2 u3 S → P (.inl none) (SH, S9, T) 0 0) → xj_E (xX L xs) D 57 0 [(0, .ref 0), (1, .int u1), (2, .int u2), (3, .int u3)] [] (SH, S, T) P) ∧
    (∀ (u1 : Int32) (u2 : Int32) (u3 : Int32) S D (P : (Option Value ⊕ Nat) → xj_W → Nat → Nat → Prop), 3 + n ≤ D → (dk_c_all n).2.1 u1 u2 u3 S → (∀ v S9, (v, S9) = (fk_c_all n).2.1 u1 u2 u3 S → P (.inl none) (SH, S9, T) 0 0) → xj_E (xX L xs) D 58 0 [(0, .ref 0), (1, .int u1), (2, .int u2), (3, .int u3)] [] (SH, S, T) P) ∧
    (∀ (u1 : Int32) (u2 : Int32) (u3 : Int32) S D (P : (Option Value ⊕ Nat) → xj_W → Nat → Nat → Prop), 3 + n ≤ D → (dk_c_all n).2.2.1 u1 u2 u3 S → (∀ v S9, (v, S9) = (fk_c_all n).2.2.1 u1 u2 u3 S → P (.inl none) (SH, S9, T) 0 0) → xj_E (xX L xs) D 62 0 [(0, .ref 0), (1, .int u1), (2, .int u2), (3, .int u3)] [] (SH, S, T) P) ∧
    (∀ (u1 : Int32) (u2 : Int32) S D (P : (Option Value ⊕ Nat) → xj_W → Nat → Nat → Prop), 3 + n ≤ D → (dk_c_all n).2.2.2.1 u1 u2 S → (∀ v S9, (v, S9) = (fk_c_all n).2.2.2.1 u1 u2 S → P (.inl none) (SH, S9, T) 0 0) → xj_E (xX L xs) D 63 0 [(0, .ref 0), (1, .int u1), (2, .int u2)] [] (SH, S, T) P) ∧
    (∀ (u1 : Int32) (u2 : Int32) S D (P : (Option Value ⊕ Nat) → xj_W → Nat → Nat → Prop), 3 + n ≤ D → (dk_c_all n).2.2.2.2.1 u1 u2 S → (∀ v S9, (v, S9) = (fk_c_all n).2.2.2.2.1 u1 u2 S → P (.inl none) (SH, S9, T) 0 0) → xj_E (xX L xs) D 64 0 [(0, .ref 0), (1, .int u1), (2, .int u2)] [] (SH, S, T) P) ∧
    (∀ (u1 : Int32) (u2 : Int32) (u3 : Int32) (u4 : Int32) S D (P : (Option Value ⊕ Nat) → xj_W → Nat → Nat → Prop), 3 + n ≤ D → (dk_c_all n).2.2.2.2.2.1 u1 u2 u3 u4 S → (∀ v S9, (v, S9) = (fk_c_all n).2.2.2.2.2.1 u1 u2 u3 u4 S → P (.inl none) (SH, S9, T) 0 0) → xj_E (xX L xs) D 65 0 [(0, .ref 0), (1, .int u1), (2, .int u2), (3, .int u3), (4, .int u4)] [] (SH, S, T) P) ∧
    (∀ (u1 : Int32) (u2 : Int32) S D (P : (Option Value ⊕ Nat) → xj_W → Nat → Nat → Prop), 3 + n ≤ D → (dk_c_all n).2.2.2.2.2.2.1 u1 u2 S → (∀ v S9, (v, S9) = (fk_c_all n).2.2.2.2.2.2.1 u1 u2 S → P (.inl none) (SH, S9, T) 0 0) → xj_E (xX L xs) D 66 0 [(0, .ref 0), (1, .int u1), (2, .int u2)] [] (SH, S, T) P) ∧
    (∀ (u1 : Int32) (u2 : Int32) (u3 : Int32) S D (P : (Option Value ⊕ Nat) → xj_W → Nat → Nat → Prop), 3 + n ≤ D → (dk_c_all n).2.2.2.2.2.2.2.1 u1 u2 u3 S → (∀ v S9, (v, S9) = (fk_c_all n).2.2.2.2.2.2.2.1 u1 u2 u3 S → P (.inl none) (SH, S9, T) 0 0) → xj_E (xX L xs) D 63 2 [(0, .ref 0), (1, .int u1), (2, .int u2), (3, .int u3)] [] (SH, S, T) P) ∧
    (∀ (u1 : Int32) (u2 : Int32) (u3 : Int32) (u4 : Int32) S D (P : (Option Value ⊕ Nat) → xj_W → Nat → Nat → Prop), 3 + n ≤ D → (dk_c_all n).2.2.2.2.2.2.2.2.1 u1 u2 u3 u4 S → (∀ v S9, (v, S9) = (fk_c_all n).2.2.2.2.2.2.2.2.1 u1 u2 u3 u4 S → P (.inl none) (SH, S9, T) 0 0) → xj_E (xX L xs) D 64 11 [(0, .ref 0), (1, .int u1), (2, .int u2), (3, .int u3), (4, .int u4)] [] (SH, S, T) P) ∧
    (∀ (u1 : Int32) (u2 : Int32) (u3 : Int32) (u4 : Int32) (u5 : Int32) (u6 : Int32) S D (P : (Option Value ⊕ Nat) → xj_W → Nat → Nat → Prop), 3 + n ≤ D → (dk_c_all n).2.2.2.2.2.2.2.2.2 u1 u2 u3 u4 u5 u6 S → (∀ v S9, (v, S9) = (fk_c_all n).2.2.2.2.2.2.2.2.2 u1 u2 u3 u4 u5 u6 S → P (.inl none) (SH, S9, T) 0 0) → xj_E (xX L xs) D 65 12 [(0, .ref 0), (1, .int u1), (2, .int u2), (3, .int u3), (4, .int u4), (5, .int u5), (6, .int u6)] [] (SH, S, T) P) := by
  induction n with
  | zero => exact ⟨fun _ _ _ _ _ _ _ hd _ => hd.elim, fun _ _ _ _ _ _ _ hd _ => hd.elim, fun _ _ _ _ _ _ _ hd _ => hd.elim, fun _ _ _ _ _ _ hd _ => hd.elim, fun _ _ _ _ _ _ hd _ => hd.elim, fun _ _ _ _ _ _ _ _ hd _ => hd.elim, fun _ _ _ _ _ _ hd _ => hd.elim, fun _ _ _ _ _ _ _ hd _ => hd.elim, fun _ _ _ _ _ _ _ _ hd _ => hd.elim, fun _ _ _ _ _ _ _ _ _ _ hd _ => hd.elim⟩
  | succ n ih =>
    refine ⟨?_, ?_, ?_, ?_, ?_, ?_, ?_, ?_, ?_, ?_⟩
    · intro u1 u2 u3 S D P hD hd h
      obtain ⟨D1, rfl⟩ : ∃ D1, D = D1 + 1 := ⟨D - 1, by omega⟩
      refine xj_E.adv 3 (pc' := (if xj_cmp .ne (S 0 4) 0 = true then 19 else 7)) (ls' := [(0, .ref 0), (1, .int u1), (2, .int u2), (3, .int u3)]) (st' := []) (w' := (SH, S, T)) rfl ?_
      refine xj_E.b_ne (fun q => ?_) (fun q => ?_)
      · have hd := hd.1 q
        have h := fun v S9 e => h v S9 (Eq.trans e (if_pos q).symm)
        refine xj_E.adv 3 (pc' := 24) (ls' := [(0, .ref 0), (1, .int u1), (2, .int u2), (3, .int u3)]) (st' := []) (w' := (SH, (xj_set S 0 4 1), T)) rfl ?_
        exact xj_E.ret rfl rfl rfl rfl (h _ _ rfl)
      · have hd := hd.2 q
        have h := fun v S9 e => h v S9 (Eq.trans e (if_neg q).symm)
        refine xj_E.adv 5 (pc' := (if xj_cmp .ne (S 14 1) 40 = true then 25 else 19)) (ls' := [(0, .ref 0), (1, .int u1), (2, .int u2), (3, .int u3)]) (st' := []) (w' := (SH, S, T)) rfl ?_
        refine xj_E.b_ne (fun q => ?_) (fun q => ?_)
        · have hd := hd.1 q
          have h := fun v S9 e => h v S9 (Eq.trans e (if_pos q).symm)
          refine xj_E.adv 5 (pc' := 32) (ls' := [(0, .ref 0), (1, .int u1), (2, .int u2), (3, .int u3)]) (st' := [.int u2, .int u1, .ref 14, .ref 0]) (w' := (SH, S, T)) rfl ?_
          refine xj_E.calli (d := D1) (S := SH) rfl rfl rfl rfl rfl (ok_l_add (by omega) hd.1 ?_)
          intro v1 S1 e1
          refine ⟨_, _, _, rfl, rfl, rfl, rfl, ?_⟩
          have hd := hd.2
          rw [← e1] at hd h
          refine xj_E.adv 2 (pc' := 37) (ls' := [(0, .ref 0), (1, .int u1), (2, .int u2), (3, .int u3)]) (st' := [.int u3, .int 0, .int v1, .ref 0]) (w' := (SH, S1, T)) rfl ?_
          refine xj_E.callv (d := D1) (S := SH) rfl rfl rfl rfl rfl ((ih.2.1) _ _ _ _ _ _ (by omega) hd.1 ?_)
          intro v2 S2 e2
          refine ⟨_, _, rfl, rfl, rfl, rfl, ?_⟩
          have hd := hd.2
          rw [← e2] at hd h
          exact xj_E.ret rfl rfl rfl rfl (h _ _ rfl)
        · have hd := hd.2 q
          have h := fun v S9 e => h v S9 (Eq.trans e (if_neg q).symm)
          refine xj_E.adv 3 (pc' := 24) (ls' := [(0, .ref 0), (1, .int u1), (2, .int u2), (3, .int u3)]) (st' := []) (w' := (SH, (xj_set S 0 4 1), T)) rfl ?_
          exact xj_E.ret rfl rfl rfl rfl (h _ _ rfl)
    · intro u1 u2 u3 S D P hD hd h
      obtain ⟨D1, rfl⟩ : ∃ D1, D = D1 + 1 := ⟨D - 1, by omega⟩
      refine xj_E.adv 3 (pc' := (if xj_cmp .ne (S 0 4) 0 = true then 27 else 7)) (ls' := [(0, .ref 0), (1, .int u1), (2, .int u2), (3, .int u3)]) (st' := []) (w' := (SH, S, T)) rfl ?_
      refine xj_E.b_ne (fun q => ?_) (fun q => ?_)
      · have hd := hd.1 q
        have h := fun v S9 e => h v S9 (Eq.trans e (if_pos q).symm)
        refine xj_E.adv 3 (pc' := 32) (ls' := [(0, .ref 0), (1, .int u1), (2, .int u2), (3, .int u3)]) (st' := []) (w' := (SH, (xj_set S 0 4 1), T)) rfl ?_
        exact xj_E.ret rfl rfl rfl rfl (h _ _ rfl)
      · have hd := hd.2 q
        have h := fun v S9 e => h v S9 (Eq.trans e (if_neg q).symm)
        refine xj_E.adv 6 (pc' := (if xj_cmp .eq (S 0 3) (S 14 0) = true then 27 else 21)) (ls' := [(0, .ref 0), (1, .int u1), (2, .int u2), (3, .int u3)]) (st' := []) (w' := (SH, S, T)) rfl ?_
        refine xj_E.b_eq (fun q => ?_) (fun q => ?_)
        · have hd := hd.1 q
          have h := fun v S9 e => h v S9 (Eq.trans e (if_pos q).symm)
          refine xj_E.adv 3 (pc' := 32) (ls' := [(0, .ref 0), (1, .int u1), (2, .int u2), (3, .int u3)]) (st' := []) (w' := (SH, (xj_set S 0 4 1), T)) rfl ?_
          exact xj_E.ret rfl rfl rfl rfl (h _ _ rfl)
        · have hd := hd.2 q
          have h := fun v S9 e => h v S9 (Eq.trans e (if_neg q).symm)
          refine xj_E.adv 3 (pc' := (if xj_cmp .le u3 12 = true then 33 else 27)) (ls' := [(0, .ref 0), (1, .int u1), (2, .int u2), (3, .int u3)]) (st' := []) (w' := (SH, S, T)) rfl ?_
          refine xj_E.b_le (fun q => ?_) (fun q => ?_)
          · have hd := hd.1 q
            have h := fun v S9 e => h v S9 (Eq.trans e (if_pos q).symm)
            refine xj_E.adv 10 (pc' := 49) (ls' := [(0, .ref 0), (1, .int u1), (2, .int u2), (3, .int u3)]) (st' := [.int u2, .int u1, .ref 14]) (w' := (SH, (xj_set S 0 3 ((S 0 3) + 1)), T)) rfl ?_
            refine xj_E.callv (d := D1) (S := SH) rfl rfl rfl rfl rfl (ok_l_note (by omega) hd.1 ?_)
            intro v1 S1 e1
            refine ⟨_, _, rfl, rfl, rfl, rfl, ?_⟩
            have hd := hd.2
            rw [← e1] at hd h
            refine xj_E.adv 8 (pc' := 66) (ls' := [(0, .ref 0), (1, .int u1), (2, .int u2), (3, .int u3)]) (st' := [.int u1, .ref 15, .ref 1, .int u1, .ref 0]) (w' := (SH, S1, T)) rfl ?_
            refine xj_E.iald rfl rfl hd.1 ?_
            have hd := hd.2
            refine xj_E.adv 1 (pc' := 68) (ls' := [(0, .ref 0), (1, .int u1), (2, .int u2), (3, .int u3)]) (st' := [.int u2, .int (S1 15 u1.toNatClampNeg), .ref 1, .int u1, .ref 0]) (w' := (SH, S1, T)) rfl ?_
            refine xj_E.calli (d := D1) (S := SH) rfl rfl rfl rfl rfl (xj_E.deep (ok_p_partsHearing (d := 0) hd.1 ?_) (by omega))
            intro v e
            subst e
            refine ⟨_, _, _, rfl, rfl, rfl, rfl, ?_⟩
            have hd := hd.2
            refine xj_E.callv (d := D1) (S := SH) rfl rfl rfl rfl rfl (ok_c_markSiblings (by omega) hd.1 ?_)
            intro v2 S2 e2
            refine ⟨_, _, rfl, rfl, rfl, rfl, ?_⟩
            have hd := hd.2
            rw [← e2] at hd h
            refine xj_E.adv 7 (pc' := 89) (ls' := [(0, .ref 0), (1, .int u1), (2, .int u2), (3, .int u3)]) (st' := [.int u1, .ref 15, .ref 2]) (w' := (SH, S2, T)) rfl ?_
            refine xj_E.iald rfl rfl hd.1 ?_
            have hd := hd.2
            refine xj_E.iald rfl rfl hd.1 ?_
            have hd := hd.2
            refine xj_E.adv 1 (pc' := (if xj_cmp .ne (S2 2 (S2 15 u1.toNatClampNeg).toNatClampNeg) 0 = true then 103 else 94)) (ls' := [(0, .ref 0), (1, .int u1), (2, .int u2), (3, .int u3)]) (st' := []) (w' := (SH, S2, T)) rfl ?_
            refine xj_E.b_ne (fun q => ?_) (fun q => ?_)
            · have hd := hd.1 q
              have h := fun v S9 e => h v S9 (Eq.trans e (if_pos q).symm)
              refine xj_E.adv 3 (pc' := (if xj_cmp .eq u2 4 = true then 113 else 108)) (ls' := [(0, .ref 0), (1, .int u1), (2, .int u2), (3, .int u3)]) (st' := []) (w' := (SH, S2, T)) rfl ?_
              refine xj_E.b_eq (fun q => ?_) (fun q => ?_)
              · have hd := hd.1 q
                have h := fun v S9 e => h v S9 (Eq.trans e (if_pos q).symm)
                refine xj_E.adv 5 (pc' := 118) (ls' := [(0, .ref 0), (1, .int u1), (2, .int u2), (3, .int u3)]) (st' := [.int (u3 + 1), .int u1, .ref 0]) (w' := (SH, S2, T)) rfl ?_
                refine xj_E.callv (d := D1) (S := SH) rfl rfl rfl rfl rfl ((ih.2.2.2.2.2.2.1) _ _ _ _ _ (by omega) hd.1 ?_)
                intro v3 S3 e3
                refine ⟨_, _, rfl, rfl, rfl, rfl, ?_⟩
                have hd := hd.2
                rw [← e3] at hd h
                exact xj_E.ret rfl rfl rfl rfl (h _ _ rfl)
              · have hd := hd.2 q
                have h := fun v S9 e => h v S9 (Eq.trans e (if_neg q).symm)
                refine xj_E.adv 3 (pc' := (if xj_cmp .ne u2 3 = true then 121 else 113)) (ls' := [(0, .ref 0), (1, .int u1), (2, .int u2), (3, .int u3)]) (st' := []) (w' := (SH, S2, T)) rfl ?_
                refine xj_E.b_ne (fun q => ?_) (fun q => ?_)
                · have hd := hd.1 q
                  have h := fun v S9 e => h v S9 (Eq.trans e (if_pos q).symm)
                  exact xj_E.ret rfl rfl rfl rfl (h _ _ rfl)
                · have hd := hd.2 q
                  have h := fun v S9 e => h v S9 (Eq.trans e (if_neg q).symm)
                  refine xj_E.adv 5 (pc' := 118) (ls' := [(0, .ref 0), (1, .int u1), (2, .int u2), (3, .int u3)]) (st' := [.int (u3 + 1), .int u1, .ref 0]) (w' := (SH, S2, T)) rfl ?_
                  refine xj_E.callv (d := D1) (S := SH) rfl rfl rfl rfl rfl ((ih.2.2.2.2.2.2.1) _ _ _ _ _ (by omega) hd.1 ?_)
                  intro v4 S4 e4
                  refine ⟨_, _, rfl, rfl, rfl, rfl, ?_⟩
                  have hd := hd.2
                  rw [← e4] at hd h
                  exact xj_E.ret rfl rfl rfl rfl (h _ _ rfl)
            · have hd := hd.2 q
              have h := fun v S9 e => h v S9 (Eq.trans e (if_neg q).symm)
              refine xj_E.adv 6 (pc' := 100) (ls' := [(0, .ref 0), (1, .int u1), (2, .int u2), (3, .int u3)]) (st' := [.int (u3 + 1), .int u2, .int u1, .ref 0]) (w' := (SH, S2, T)) rfl ?_
              refine xj_E.callv (d := D1) (S := SH) rfl rfl rfl rfl rfl ((ih.2.2.1) _ _ _ _ _ _ (by omega) hd.1 ?_)
              intro v5 S5 e5
              refine ⟨_, _, rfl, rfl, rfl, rfl, ?_⟩
              have hd := hd.2
              rw [← e5] at hd h
              refine xj_E.adv 3 (pc' := (if xj_cmp .eq u2 4 = true then 113 else 108)) (ls' := [(0, .ref 0), (1, .int u1), (2, .int u2), (3, .int u3)]) (st' := []) (w' := (SH, S5, T)) rfl ?_
              refine xj_E.b_eq (fun q => ?_) (fun q => ?_)
              · have hd := hd.1 q
                have h := fun v S9 e => h v S9 (Eq.trans e (if_pos q).symm)
                refine xj_E.adv 5 (pc' := 118) (ls' := [(0, .ref 0), (1, .int u1), (2, .int u2), (3, .int u3)]) (st' := [.int (u3 + 1), .int u1, .ref 0]) (w' := (SH, S5, T)) rfl ?_
                refine xj_E.callv (d := D1) (S := SH) rfl rfl rfl rfl rfl ((ih.2.2.2.2.2.2.1) _ _ _ _ _ (by omega) hd.1 ?_)
                intro v6 S6 e6
                refine ⟨_, _, rfl, rfl, rfl, rfl, ?_⟩
                have hd := hd.2
                rw [← e6] at hd h
                exact xj_E.ret rfl rfl rfl rfl (h _ _ rfl)
              · have hd := hd.2 q
                have h := fun v S9 e => h v S9 (Eq.trans e (if_neg q).symm)
                refine xj_E.adv 3 (pc' := (if xj_cmp .ne u2 3 = true then 121 else 113)) (ls' := [(0, .ref 0), (1, .int u1), (2, .int u2), (3, .int u3)]) (st' := []) (w' := (SH, S5, T)) rfl ?_
                refine xj_E.b_ne (fun q => ?_) (fun q => ?_)
                · have hd := hd.1 q
                  have h := fun v S9 e => h v S9 (Eq.trans e (if_pos q).symm)
                  exact xj_E.ret rfl rfl rfl rfl (h _ _ rfl)
                · have hd := hd.2 q
                  have h := fun v S9 e => h v S9 (Eq.trans e (if_neg q).symm)
                  refine xj_E.adv 5 (pc' := 118) (ls' := [(0, .ref 0), (1, .int u1), (2, .int u2), (3, .int u3)]) (st' := [.int (u3 + 1), .int u1, .ref 0]) (w' := (SH, S5, T)) rfl ?_
                  refine xj_E.callv (d := D1) (S := SH) rfl rfl rfl rfl rfl ((ih.2.2.2.2.2.2.1) _ _ _ _ _ (by omega) hd.1 ?_)
                  intro v7 S7 e7
                  refine ⟨_, _, rfl, rfl, rfl, rfl, ?_⟩
                  have hd := hd.2
                  rw [← e7] at hd h
                  exact xj_E.ret rfl rfl rfl rfl (h _ _ rfl)
          · have hd := hd.2 q
            have h := fun v S9 e => h v S9 (Eq.trans e (if_neg q).symm)
            refine xj_E.adv 3 (pc' := 32) (ls' := [(0, .ref 0), (1, .int u1), (2, .int u2), (3, .int u3)]) (st' := []) (w' := (SH, (xj_set S 0 4 1), T)) rfl ?_
            exact xj_E.ret rfl rfl rfl rfl (h _ _ rfl)
    · intro u1 u2 u3 S D P hD hd h
      obtain ⟨D1, rfl⟩ : ∃ D1, D = D1 + 1 := ⟨D - 1, by omega⟩
      refine xj_E.adv 1 (pc' := 1) (ls' := [(0, .ref 0), (1, .int u1), (2, .int u2), (3, .int u3)]) (st' := [.int u2]) (w' := (SH, S, T)) rfl ?_
      by_cases q2 : u2 = 2
      · have hd := hd.1 q2
        have h := fun v S9 e => h v S9 (Eq.trans e (if_pos q2).symm)
        refine xj_E.swk q2 ?_
        refine xj_E.adv 1 (pc' := 48) (ls' := [(0, .ref 0), (1, .int u1), (2, .int u2), (3, .int u3)]) (st' := []) (w' := (SH, S, T)) rfl ?_
        refine xj_E.adv 3 (pc' := 51) (ls' := [(0, .ref 0), (1, .int u1), (2, .int u2), (3, .int u3)]) (st' := [.int u3, .int u1, .ref 0]) (w' := (SH, S, T)) rfl ?_
        refine xj_E.callv (d := D1) (S := SH) rfl rfl rfl rfl rfl ((ih.2.2.2.1) _ _ _ _ _ (by omega) hd.1 ?_)
        intro v1 S1 e1
        refine ⟨_, _, rfl, rfl, rfl, rfl, ?_⟩
        have hd := hd.2
        rw [← e1] at hd h
        refine xj_E.adv 1 (pc' := 89) (ls' := [(0, .ref 0), (1, .int u1), (2, .int u2), (3, .int u3)]) (st' := []) (w' := (SH, S1, T)) rfl ?_
        exact xj_E.ret rfl rfl rfl rfl (h _ _ rfl)
      · have hd := hd.2 q2
        have h := fun v S9 e => h v S9 (Eq.trans e (if_neg q2).symm)
        by_cases q3 : u2 = 3
        · have hd := hd.1 q3
          have h := fun v S9 e => h v S9 (Eq.trans e (if_pos q3).symm)
          refine xj_E.swk q3 ?_
          refine xj_E.adv 1 (pc' := 89) (ls' := [(0, .ref 0), (1, .int u1), (2, .int u2), (3, .int u3)]) (st' := []) (w' := (SH, S, T)) rfl ?_
          exact xj_E.ret rfl rfl rfl rfl (h _ _ rfl)
        · have hd := hd.2 q3
          have h := fun v S9 e => h v S9 (Eq.trans e (if_neg q3).symm)
          by_cases q4 : u2 = 4
          · have hd := hd.1 q4
            have h := fun v S9 e => h v S9 (Eq.trans e (if_pos q4).symm)
            refine xj_E.swk q4 ?_
            refine xj_E.adv 1 (pc' := 57) (ls' := [(0, .ref 0), (1, .int u1), (2, .int u2), (3, .int u3)]) (st' := []) (w' := (SH, S, T)) rfl ?_
            refine xj_E.adv 3 (pc' := 60) (ls' := [(0, .ref 0), (1, .int u1), (2, .int u2), (3, .int u3)]) (st' := [.int u3, .int u1, .ref 0]) (w' := (SH, S, T)) rfl ?_
            refine xj_E.callv (d := D1) (S := SH) rfl rfl rfl rfl rfl ((ih.2.2.2.2.1) _ _ _ _ _ (by omega) hd.1 ?_)
            intro v2 S2 e2
            refine ⟨_, _, rfl, rfl, rfl, rfl, ?_⟩
            have hd := hd.2
            rw [← e2] at hd h
            refine xj_E.adv 1 (pc' := 89) (ls' := [(0, .ref 0), (1, .int u1), (2, .int u2), (3, .int u3)]) (st' := []) (w' := (SH, S2, T)) rfl ?_
            exact xj_E.ret rfl rfl rfl rfl (h _ _ rfl)
          · have hd := hd.2 q4
            have h := fun v S9 e => h v S9 (Eq.trans e (if_neg q4).symm)
            by_cases q5 : u2 = 5
            · have hd := hd.1 q5
              have h := fun v S9 e => h v S9 (Eq.trans e (if_pos q5).symm)
              refine xj_E.swk q5 ?_
              refine xj_E.adv 1 (pc' := 66) (ls' := [(0, .ref 0), (1, .int u1), (2, .int u2), (3, .int u3)]) (st' := []) (w' := (SH, S, T)) rfl ?_
              refine xj_E.adv 5 (pc' := 71) (ls' := [(0, .ref 0), (1, .int u1), (2, .int u2), (3, .int u3)]) (st' := [.int u3, .int 5, .int 2, .int u1, .ref 0]) (w' := (SH, S, T)) rfl ?_
              refine xj_E.callv (d := D1) (S := SH) rfl rfl rfl rfl rfl ((ih.2.2.2.2.2.1) _ _ _ _ _ _ _ (by omega) hd.1 ?_)
              intro v3 S3 e3
              refine ⟨_, _, rfl, rfl, rfl, rfl, ?_⟩
              have hd := hd.2
              rw [← e3] at hd h
              refine xj_E.adv 1 (pc' := 89) (ls' := [(0, .ref 0), (1, .int u1), (2, .int u2), (3, .int u3)]) (st' := []) (w' := (SH, S3, T)) rfl ?_
              exact xj_E.ret rfl rfl rfl rfl (h _ _ rfl)
            · have hd := hd.2 q5
              have h := fun v S9 e => h v S9 (Eq.trans e (if_neg q5).symm)
              by_cases q6 : u2 = 6
              · have hd := hd.1 q6
                have h := fun v S9 e => h v S9 (Eq.trans e (if_pos q6).symm)
                refine xj_E.swk q6 ?_
                refine xj_E.adv 1 (pc' := 77) (ls' := [(0, .ref 0), (1, .int u1), (2, .int u2), (3, .int u3)]) (st' := []) (w' := (SH, S, T)) rfl ?_
                refine xj_E.adv 5 (pc' := 83) (ls' := [(0, .ref 0), (1, .int u1), (2, .int u2), (3, .int u3)]) (st' := [.int u3, .int 6, .int 3, .int u1, .ref 0]) (w' := (SH, S, T)) rfl ?_
                refine xj_E.callv (d := D1) (S := SH) rfl rfl rfl rfl rfl ((ih.2.2.2.2.2.1) _ _ _ _ _ _ _ (by omega) hd.1 ?_)
                intro v4 S4 e4
                refine ⟨_, _, rfl, rfl, rfl, rfl, ?_⟩
                have hd := hd.2
                rw [← e4] at hd h
                refine xj_E.adv 1 (pc' := 89) (ls' := [(0, .ref 0), (1, .int u1), (2, .int u2), (3, .int u3)]) (st' := []) (w' := (SH, S4, T)) rfl ?_
                exact xj_E.ret rfl rfl rfl rfl (h _ _ rfl)
              · have hd := hd.2 q6
                have h := fun v S9 e => h v S9 (Eq.trans e (if_neg q6).symm)
                by_cases q7 : u2 = 7
                · have hd := hd.1 q7
                  have h := fun v S9 e => h v S9 (Eq.trans e (if_pos q7).symm)
                  refine xj_E.swk q7 ?_
                  refine xj_E.adv 1 (pc' := 89) (ls' := [(0, .ref 0), (1, .int u1), (2, .int u2), (3, .int u3)]) (st' := []) (w' := (SH, S, T)) rfl ?_
                  exact xj_E.ret rfl rfl rfl rfl (h _ _ rfl)
                · have hd := hd.2 q7
                  have h := fun v S9 e => h v S9 (Eq.trans e (if_neg q7).symm)
                  by_cases q8 : u2 = 8
                  · have hd := hd.1 q8
                    have h := fun v S9 e => h v S9 (Eq.trans e (if_pos q8).symm)
                    refine xj_E.swk q8 ?_
                    refine xj_E.adv 1 (pc' := 89) (ls' := [(0, .ref 0), (1, .int u1), (2, .int u2), (3, .int u3)]) (st' := []) (w' := (SH, S, T)) rfl ?_
                    exact xj_E.ret rfl rfl rfl rfl (h _ _ rfl)
                  · have hd := hd.2 q8
                    have h := fun v S9 e => h v S9 (Eq.trans e (if_neg q8).symm)
                    by_cases q9 : u2 = 9
                    · have hd := hd.1 q9
                      have h := fun v S9 e => h v S9 (Eq.trans e (if_pos q9).symm)
                      refine xj_E.swk q9 ?_
                      refine xj_E.adv 1 (pc' := 57) (ls' := [(0, .ref 0), (1, .int u1), (2, .int u2), (3, .int u3)]) (st' := []) (w' := (SH, S, T)) rfl ?_
                      refine xj_E.adv 3 (pc' := 60) (ls' := [(0, .ref 0), (1, .int u1), (2, .int u2), (3, .int u3)]) (st' := [.int u3, .int u1, .ref 0]) (w' := (SH, S, T)) rfl ?_
                      refine xj_E.callv (d := D1) (S := SH) rfl rfl rfl rfl rfl ((ih.2.2.2.2.1) _ _ _ _ _ (by omega) hd.1 ?_)
                      intro v5 S5 e5
                      refine ⟨_, _, rfl, rfl, rfl, rfl, ?_⟩
                      have hd := hd.2
                      rw [← e5] at hd h
                      refine xj_E.adv 1 (pc' := 89) (ls' := [(0, .ref 0), (1, .int u1), (2, .int u2), (3, .int u3)]) (st' := []) (w' := (SH, S5, T)) rfl ?_
                      exact xj_E.ret rfl rfl rfl rfl (h _ _ rfl)
                    · have hd := hd.2 q9
                      have h := fun v S9 e => h v S9 (Eq.trans e (if_neg q9).symm)
                      refine xj_E.swt rfl (xj_swd (fun z z1 z2 => ?_)) rfl ?_
                      · have hz : z = 2 ∨ z = 3 ∨ z = 4 ∨ z = 5 ∨ z = 6 ∨ z = 7 ∨ z = 8 ∨ z = 9 := by omega
                        rcases hz with rfl | rfl | rfl | rfl | rfl | rfl | rfl | rfl
                        · exact fun e => q2 (e.trans (by decide))
                        · exact fun e => q3 (e.trans (by decide))
                        · exact fun e => q4 (e.trans (by decide))
                        · exact fun e => q5 (e.trans (by decide))
                        · exact fun e => q6 (e.trans (by decide))
                        · exact fun e => q7 (e.trans (by decide))
                        · exact fun e => q8 (e.trans (by decide))
                        · exact fun e => q9 (e.trans (by decide))
                      exact xj_E.ret rfl rfl rfl rfl (h _ _ rfl)
    · intro u1 u2 S D P hD hd h
      refine xj_E.adv 2 (pc' := 2) (ls' := [(3, .int 0), (0, .ref 0), (1, .int u1), (2, .int u2)]) (st' := []) (w' := (SH, S, T)) rfl ?_
      refine xj_E.loc [0, 1, 2, 3] xhth rfl (show xj_E (xX L xs) D 63 2 [(0, .ref 0), (1, .int u1), (2, .int u2), (3, .int 0)] [] (SH, S, T) P from ?_)
      exact (ih.2.2.2.2.2.2.2.1) _ _ _ _ _ _ (by omega) hd h
    · intro u1 u2 S D P hD hd h
      refine xj_E.adv 6 (pc' := 11) (ls' := [(4, .int 0), (3, .int (S 14 1)), (0, .ref 0), (1, .int u1), (2, .int u2)]) (st' := []) (w' := (SH, S, T)) rfl ?_
      refine xj_E.loc [0, 1, 2, 3, 4] xhth rfl (show xj_E (xX L xs) D 64 11 [(0, .ref 0), (1, .int u1), (2, .int u2), (3, .int (S 14 1)), (4, .int 0)] [] (SH, S, T) P from ?_)
      exact (ih.2.2.2.2.2.2.2.2.1) _ _ _ _ _ _ _ (by omega) hd h
    · intro u1 u2 u3 u4 S D P hD hd h
      refine xj_E.adv 6 (pc' := 12) (ls' := [(6, .int 0), (5, .int (S 14 1)), (0, .ref 0), (1, .int u1), (2, .int u2), (3, .int u3), (4, .int u4)]) (st' := []) (w' := (SH, S, T)) rfl ?_
      refine xj_E.loc [0, 1, 2, 3, 4, 5, 6] xhth rfl (show xj_E (xX L xs) D 65 12 [(0, .ref 0), (1, .int u1), (2, .int u2), (3, .int u3), (4, .int u4), (5, .int (S 14 1)), (6, .int 0)] [] (SH, S, T) P from ?_)
      exact (ih.2.2.2.2.2.2.2.2.2) _ _ _ _ _ _ _ _ _ (by omega) hd h
    · intro u1 u2 S D P hD hd h
      obtain ⟨D1, rfl⟩ : ∃ D1, D = D1 + 1 := ⟨D - 1, by omega⟩
      refine xj_E.adv 4 (pc' := 8) (ls' := [(0, .ref 0), (1, .int u1), (2, .int u2)]) (st' := [.int u1, .ref 15]) (w' := (SH, S, T)) rfl ?_
      refine xj_E.iald rfl rfl hd.1 ?_
      have hd := hd.2
      refine xj_E.adv 5 (pc' := 16) (ls' := [(3, .int (S 15 u1.toNatClampNeg)), (0, .ref 0), (1, .int u1), (2, .int u2)]) (st' := [.int 1, .int (S 15 u1.toNatClampNeg), .ref 1]) (w' := (SH, S, T)) rfl ?_
      refine xj_E.calli (d := D1) (S := SH) rfl rfl rfl rfl rfl (xj_E.deep (ok_p_hasFlag (d := 0) hd.1 ?_) (by omega))
      intro v e
      subst e
      refine ⟨_, _, _, rfl, rfl, rfl, rfl, ?_⟩
      have hd := hd.2
      refine xj_E.adv 1 (pc' := (if xj_cmp .eq (r_p_hasFlag S (S 15 u1.toNatClampNeg) 1) 0 = true then 56 else 22)) (ls' := [(3, .int (S 15 u1.toNatClampNeg)), (0, .ref 0), (1, .int u1), (2, .int u2)]) (st' := []) (w' := (SH, S, T)) rfl ?_
      refine xj_E.b_eq (fun q => ?_) (fun q => ?_)
      · have hd := hd.1 q
        have h := fun v S9 e => h v S9 (Eq.trans e (if_pos q).symm)
        exact xj_E.ret rfl rfl rfl rfl (h _ _ rfl)
      · have hd := hd.2 q
        have h := fun v S9 e => h v S9 (Eq.trans e (if_neg q).symm)
        refine xj_E.adv 3 (pc' := 27) (ls' := [(3, .int (S 15 u1.toNatClampNeg)), (0, .ref 0), (1, .int u1), (2, .int u2)]) (st' := [.int (S 15 u1.toNatClampNeg), .ref 1]) (w' := (SH, S, T)) rfl ?_
        refine xj_E.calli (d := D1) (S := SH) rfl rfl rfl rfl rfl (xj_E.deep (ok_p_hasEntry (d := 0) hd.1 ?_) (by omega))
        intro v e
        subst e
        refine ⟨_, _, _, rfl, rfl, rfl, rfl, ?_⟩
        have hd := hd.2
        refine xj_E.adv 1 (pc' := (if xj_cmp .ne (r_p_hasEntry S (S 15 u1.toNatClampNeg)) 0 = true then 56 else 33)) (ls' := [(3, .int (S 15 u1.toNatClampNeg)), (0, .ref 0), (1, .int u1), (2, .int u2)]) (st' := []) (w' := (SH, S, T)) rfl ?_
        refine xj_E.b_ne (fun q => ?_) (fun q => ?_)
        · have hd := hd.1 q
          have h := fun v S9 e => h v S9 (Eq.trans e (if_pos q).symm)
          exact xj_E.ret rfl rfl rfl rfl (h _ _ rfl)
        · have hd := hd.2 q
          have h := fun v S9 e => h v S9 (Eq.trans e (if_neg q).symm)
          refine xj_E.adv 2 (pc' := 35) (ls' := [(3, .int (S 15 u1.toNatClampNeg)), (0, .ref 0), (1, .int u1), (2, .int u2)]) (st' := [.int u1, .ref 0]) (w' := (SH, S, T)) rfl ?_
          refine xj_E.calli (d := D1) (S := SH) rfl rfl rfl rfl rfl (xj_E.deep (ok_c_parentLets (d := 0) hd.1 ?_) (by omega))
          intro v e
          subst e
          refine ⟨_, _, _, rfl, rfl, rfl, rfl, ?_⟩
          have hd := hd.2
          refine xj_E.adv 1 (pc' := (if xj_cmp .eq (r_c_parentLets S u1) 0 = true then 56 else 41)) (ls' := [(3, .int (S 15 u1.toNatClampNeg)), (0, .ref 0), (1, .int u1), (2, .int u2)]) (st' := []) (w' := (SH, S, T)) rfl ?_
          refine xj_E.b_eq (fun q => ?_) (fun q => ?_)
          · have hd := hd.1 q
            have h := fun v S9 e => h v S9 (Eq.trans e (if_pos q).symm)
            exact xj_E.ret rfl rfl rfl rfl (h _ _ rfl)
          · have hd := hd.2 q
            have h := fun v S9 e => h v S9 (Eq.trans e (if_neg q).symm)
            refine xj_E.adv 6 (pc' := 51) (ls' := [(3, .int (S 15 u1.toNatClampNeg)), (0, .ref 0), (1, .int u1), (2, .int u2)]) (st' := [.int u1, .ref 16, .int (S 15 u1.toNatClampNeg), .ref 0]) (w' := (SH, S, T)) rfl ?_
            refine xj_E.iald rfl rfl hd.1 ?_
            have hd := hd.2
            refine xj_E.adv 1 (pc' := 53) (ls' := [(3, .int (S 15 u1.toNatClampNeg)), (0, .ref 0), (1, .int u1), (2, .int u2)]) (st' := [.int u2, .int (S 16 u1.toNatClampNeg), .int (S 15 u1.toNatClampNeg), .ref 0]) (w' := (SH, S, T)) rfl ?_
            refine xj_E.callv (d := D1) (S := SH) rfl rfl rfl rfl rfl ((ih.1) _ _ _ _ _ _ (by omega) hd.1 ?_)
            intro v1 S1 e1
            refine ⟨_, _, rfl, rfl, rfl, rfl, ?_⟩
            have hd := hd.2
            rw [← e1] at hd h
            exact xj_E.ret rfl rfl rfl rfl (h _ _ rfl)
    · intro u1 u2 u3 S D P hD hd h
      obtain ⟨D1, rfl⟩ : ∃ D1, D = D1 + 1 := ⟨D - 1, by omega⟩
      refine xj_E.adv 5 (pc' := (if xj_cmp .ge u3 (S 1 0) = true then 47 else 13)) (ls' := [(0, .ref 0), (1, .int u1), (2, .int u2), (3, .int u3)]) (st' := []) (w' := (SH, S, T)) rfl ?_
      refine xj_E.b_ge (fun q => ?_) (fun q => ?_)
      · have hd := hd.1 q
        have h := fun v S9 e => h v S9 (Eq.trans e (if_pos q).symm)
        exact xj_E.ret rfl rfl rfl rfl (h _ _ rfl)
      · have hd := hd.2 q
        have h := fun v S9 e => h v S9 (Eq.trans e (if_neg q).symm)
        refine xj_E.adv 4 (pc' := 21) (ls' := [(0, .ref 0), (1, .int u1), (2, .int u2), (3, .int u3)]) (st' := [.int u3, .ref 3]) (w' := (SH, S, T)) rfl ?_
        refine xj_E.iald rfl rfl hd.1 ?_
        have hd := hd.2
        refine xj_E.adv 4 (pc' := 30) (ls' := [(0, .ref 0), (1, .int u1), (2, .int u2), (3, .int u3)]) (st' := [.int u1, .ref 15, .int (S 3 u3.toNatClampNeg)]) (w' := (SH, S, T)) rfl ?_
        refine xj_E.iald rfl rfl hd.1 ?_
        have hd := hd.2
        refine xj_E.adv 1 (pc' := (if xj_cmp .ne (S 3 u3.toNatClampNeg) (S 15 u1.toNatClampNeg) = true then 41 else 34)) (ls' := [(0, .ref 0), (1, .int u1), (2, .int u2), (3, .int u3)]) (st' := []) (w' := (SH, S, T)) rfl ?_
        refine xj_E.b_ne (fun q => ?_) (fun q => ?_)
        · have hd := hd.1 q
          have h := fun v S9 e => h v S9 (Eq.trans e (if_pos q).symm)
          refine xj_E.adv 2 (pc' := 2) (ls' := [(3, .int (u3 + 1)), (0, .ref 0), (1, .int u1), (2, .int u2)]) (st' := []) (w' := (SH, S, T)) rfl ?_
          refine xj_E.loc [0, 1, 2, 3] xhth rfl (show xj_E (xX L xs) (D1 + 1) 63 2 [(0, .ref 0), (1, .int u1), (2, .int u2), (3, .int (u3 + 1))] [] (SH, S, T) P from ?_)
          exact (ih.2.2.2.2.2.2.2.1) _ _ _ _ _ _ (by omega) hd h
        · have hd := hd.2 q
          have h := fun v S9 e => h v S9 (Eq.trans e (if_neg q).symm)
          refine xj_E.adv 4 (pc' := 38) (ls' := [(0, .ref 0), (1, .int u1), (2, .int u2), (3, .int u3)]) (st' := [.int u2, .int u1, .int u3, .ref 0]) (w' := (SH, S, T)) rfl ?_
          refine xj_E.callv (d := D1) (S := SH) rfl rfl rfl rfl rfl ((ih.1) _ _ _ _ _ _ (by omega) hd.1 ?_)
          intro v1 S1 e1
          refine ⟨_, _, rfl, rfl, rfl, rfl, ?_⟩
          have hd := hd.2
          rw [← e1] at hd h
          refine xj_E.adv 2 (pc' := 2) (ls' := [(3, .int (u3 + 1)), (0, .ref 0), (1, .int u1), (2, .int u2)]) (st' := []) (w' := (SH, S1, T)) rfl ?_
          refine xj_E.loc [0, 1, 2, 3] xhth rfl (show xj_E (xX L xs) (D1 + 1) 63 2 [(0, .ref 0), (1, .int u1), (2, .int u2), (3, .int (u3 + 1))] [] (SH, S1, T) P from ?_)
          exact (ih.2.2.2.2.2.2.2.1) _ _ _ _ _ _ (by omega) hd h
    · intro u1 u2 u3 u4 S D P hD hd h
      obtain ⟨D1, rfl⟩ : ∃ D1, D = D1 + 1 := ⟨D - 1, by omega⟩
      refine xj_E.adv 3 (pc' := (if xj_cmp .ge u4 u3 = true then 58 else 17)) (ls' := [(0, .ref 0), (1, .int u1), (2, .int u2), (3, .int u3), (4, .int u4)]) (st' := []) (w' := (SH, S, T)) rfl ?_
      refine xj_E.b_ge (fun q => ?_) (fun q => ?_)
      · have hd := hd.1 q
        have h := fun v S9 e => h v S9 (Eq.trans e (if_pos q).symm)
        exact xj_E.ret rfl rfl rfl rfl (h _ _ rfl)
      · have hd := hd.2 q
        have h := fun v S9 e => h v S9 (Eq.trans e (if_neg q).symm)
        refine xj_E.adv 4 (pc' := 26) (ls' := [(0, .ref 0), (1, .int u1), (2, .int u2), (3, .int u3), (4, .int u4)]) (st' := [.int u4, .ref 16]) (w' := (SH, S, T)) rfl ?_
        refine xj_E.iald rfl rfl hd.1 ?_
        have hd := hd.2
        refine xj_E.adv 2 (pc' := (if xj_cmp .ne (S 16 u4.toNatClampNeg) u1 = true then 52 else 31)) (ls' := [(0, .ref 0), (1, .int u1), (2, .int u2), (3, .int u3), (4, .int u4)]) (st' := []) (w' := (SH, S, T)) rfl ?_
        refine xj_E.b_ne (fun q => ?_) (fun q => ?_)
        · have hd := hd.1 q
          have h := fun v S9 e => h v S9 (Eq.trans e (if_pos q).symm)
          refine xj_E.adv 2 (pc' := 11) (ls' := [(4, .int (u4 + 1)), (0, .ref 0), (1, .int u1), (2, .int u2), (3, .int u3)]) (st' := []) (w' := (SH, S, T)) rfl ?_
          refine xj_E.loc [0, 1, 2, 3, 4] xhth rfl (show xj_E (xX L xs) (D1 + 1) 64 11 [(0, .ref 0), (1, .int u1), (2, .int u2), (3, .int u3), (4, .int (u4 + 1))] [] (SH, S, T) P from ?_)
          exact (ih.2.2.2.2.2.2.2.2.1) _ _ _ _ _ _ _ (by omega) hd h
        · have hd := hd.2 q
          have h := fun v S9 e => h v S9 (Eq.trans e (if_neg q).symm)
          refine xj_E.adv 3 (pc' := 37) (ls' := [(0, .ref 0), (1, .int u1), (2, .int u2), (3, .int u3), (4, .int u4)]) (st' := [.int u4, .ref 14]) (w' := (SH, S, T)) rfl ?_
          refine xj_E.calli (d := D1) (S := SH) rfl rfl rfl rfl rfl (xj_E.deep (ok_l_isFinal (d := 0) hd.1 ?_) (by omega))
          intro v e
          subst e
          refine ⟨_, _, _, rfl, rfl, rfl, rfl, ?_⟩
          have hd := hd.2
          refine xj_E.adv 1 (pc' := (if xj_cmp .ne (r_l_isFinal S u4) 0 = true then 52 else 43)) (ls' := [(0, .ref 0), (1, .int u1), (2, .int u2), (3, .int u3), (4, .int u4)]) (st' := []) (w' := (SH, S, T)) rfl ?_
          refine xj_E.b_ne (fun q => ?_) (fun q => ?_)
          · have hd := hd.1 q
            have h := fun v S9 e => h v S9 (Eq.trans e (if_pos q).symm)
            refine xj_E.adv 2 (pc' := 11) (ls' := [(4, .int (u4 + 1)), (0, .ref 0), (1, .int u1), (2, .int u2), (3, .int u3)]) (st' := []) (w' := (SH, S, T)) rfl ?_
            refine xj_E.loc [0, 1, 2, 3, 4] xhth rfl (show xj_E (xX L xs) (D1 + 1) 64 11 [(0, .ref 0), (1, .int u1), (2, .int u2), (3, .int u3), (4, .int (u4 + 1))] [] (SH, S, T) P from ?_)
            exact (ih.2.2.2.2.2.2.2.2.1) _ _ _ _ _ _ _ (by omega) hd h
          · have hd := hd.2 q
            have h := fun v S9 e => h v S9 (Eq.trans e (if_neg q).symm)
            refine xj_E.adv 4 (pc' := 49) (ls' := [(0, .ref 0), (1, .int u1), (2, .int u2), (3, .int u3), (4, .int u4)]) (st' := [.int u2, .int 9, .int u4, .ref 0]) (w' := (SH, S, T)) rfl ?_
            refine xj_E.callv (d := D1) (S := SH) rfl rfl rfl rfl rfl ((ih.2.1) _ _ _ _ _ _ (by omega) hd.1 ?_)
            intro v1 S1 e1
            refine ⟨_, _, rfl, rfl, rfl, rfl, ?_⟩
            have hd := hd.2
            rw [← e1] at hd h
            refine xj_E.adv 2 (pc' := 11) (ls' := [(4, .int (u4 + 1)), (0, .ref 0), (1, .int u1), (2, .int u2), (3, .int u3)]) (st' := []) (w' := (SH, S1, T)) rfl ?_
            refine xj_E.loc [0, 1, 2, 3, 4] xhth rfl (show xj_E (xX L xs) (D1 + 1) 64 11 [(0, .ref 0), (1, .int u1), (2, .int u2), (3, .int u3), (4, .int (u4 + 1))] [] (SH, S1, T) P from ?_)
            exact (ih.2.2.2.2.2.2.2.2.1) _ _ _ _ _ _ _ (by omega) hd h
    · intro u1 u2 u3 u4 u5 u6 S D P hD hd h
      obtain ⟨D1, rfl⟩ : ∃ D1, D = D1 + 1 := ⟨D - 1, by omega⟩
      refine xj_E.adv 3 (pc' := (if xj_cmp .ge u6 u5 = true then 62 else 19)) (ls' := [(0, .ref 0), (1, .int u1), (2, .int u2), (3, .int u3), (4, .int u4), (5, .int u5), (6, .int u6)]) (st' := []) (w' := (SH, S, T)) rfl ?_
      refine xj_E.b_ge (fun q => ?_) (fun q => ?_)
      · have hd := hd.1 q
        have h := fun v S9 e => h v S9 (Eq.trans e (if_pos q).symm)
        exact xj_E.ret rfl rfl rfl rfl (h _ _ rfl)
      · have hd := hd.2 q
        have h := fun v S9 e => h v S9 (Eq.trans e (if_neg q).symm)
        refine xj_E.adv 4 (pc' := 28) (ls' := [(0, .ref 0), (1, .int u1), (2, .int u2), (3, .int u3), (4, .int u4), (5, .int u5), (6, .int u6)]) (st' := [.int u6, .ref 16]) (w' := (SH, S, T)) rfl ?_
        refine xj_E.iald rfl rfl hd.1 ?_
        have hd := hd.2
        refine xj_E.adv 2 (pc' := (if xj_cmp .ne (S 16 u6.toNatClampNeg) u1 = true then 56 else 33)) (ls' := [(0, .ref 0), (1, .int u1), (2, .int u2), (3, .int u3), (4, .int u4), (5, .int u5), (6, .int u6)]) (st' := []) (w' := (SH, S, T)) rfl ?_
        refine xj_E.b_ne (fun q => ?_) (fun q => ?_)
        · have hd := hd.1 q
          have h := fun v S9 e => h v S9 (Eq.trans e (if_pos q).symm)
          refine xj_E.adv 2 (pc' := 12) (ls' := [(6, .int (u6 + 1)), (0, .ref 0), (1, .int u1), (2, .int u2), (3, .int u3), (4, .int u4), (5, .int u5)]) (st' := []) (w' := (SH, S, T)) rfl ?_
          refine xj_E.loc [0, 1, 2, 3, 4, 5, 6] xhth rfl (show xj_E (xX L xs) (D1 + 1) 65 12 [(0, .ref 0), (1, .int u1), (2, .int u2), (3, .int u3), (4, .int u4), (5, .int u5), (6, .int (u6 + 1))] [] (SH, S, T) P from ?_)
          exact (ih.2.2.2.2.2.2.2.2.2) _ _ _ _ _ _ _ _ _ (by omega) hd h
        · have hd := hd.2 q
          have h := fun v S9 e => h v S9 (Eq.trans e (if_neg q).symm)
          refine xj_E.adv 4 (pc' := 42) (ls' := [(0, .ref 0), (1, .int u1), (2, .int u2), (3, .int u3), (4, .int u4), (5, .int u5), (6, .int u6)]) (st' := [.int u6, .ref 17]) (w' := (SH, S, T)) rfl ?_
          refine xj_E.iald rfl rfl hd.1 ?_
          have hd := hd.2
          refine xj_E.adv 2 (pc' := (if xj_cmp .ne (S 17 u6.toNatClampNeg) u2 = true then 56 else 47)) (ls' := [(0, .ref 0), (1, .int u1), (2, .int u2), (3, .int u3), (4, .int u4), (5, .int u5), (6, .int u6)]) (st' := []) (w' := (SH, S, T)) rfl ?_
          refine xj_E.b_ne (fun q => ?_) (fun q => ?_)
          · have hd := hd.1 q
            have h := fun v S9 e => h v S9 (Eq.trans e (if_pos q).symm)
            refine xj_E.adv 2 (pc' := 12) (ls' := [(6, .int (u6 + 1)), (0, .ref 0), (1, .int u1), (2, .int u2), (3, .int u3), (4, .int u4), (5, .int u5)]) (st' := []) (w' := (SH, S, T)) rfl ?_
            refine xj_E.loc [0, 1, 2, 3, 4, 5, 6] xhth rfl (show xj_E (xX L xs) (D1 + 1) 65 12 [(0, .ref 0), (1, .int u1), (2, .int u2), (3, .int u3), (4, .int u4), (5, .int u5), (6, .int (u6 + 1))] [] (SH, S, T) P from ?_)
            exact (ih.2.2.2.2.2.2.2.2.2) _ _ _ _ _ _ _ _ _ (by omega) hd h
          · have hd := hd.2 q
            have h := fun v S9 e => h v S9 (Eq.trans e (if_neg q).symm)
            refine xj_E.adv 4 (pc' := 53) (ls' := [(0, .ref 0), (1, .int u1), (2, .int u2), (3, .int u3), (4, .int u4), (5, .int u5), (6, .int u6)]) (st' := [.int u4, .int u3, .int u6, .ref 0]) (w' := (SH, S, T)) rfl ?_
            refine xj_E.callv (d := D1) (S := SH) rfl rfl rfl rfl rfl ((ih.2.1) _ _ _ _ _ _ (by omega) hd.1 ?_)
            intro v1 S1 e1
            refine ⟨_, _, rfl, rfl, rfl, rfl, ?_⟩
            have hd := hd.2
            rw [← e1] at hd h
            refine xj_E.adv 2 (pc' := 12) (ls' := [(6, .int (u6 + 1)), (0, .ref 0), (1, .int u1), (2, .int u2), (3, .int u3), (4, .int u4), (5, .int u5)]) (st' := []) (w' := (SH, S1, T)) rfl ?_
            refine xj_E.loc [0, 1, 2, 3, 4, 5, 6] xhth rfl (show xj_E (xX L xs) (D1 + 1) 65 12 [(0, .ref 0), (1, .int u1), (2, .int u2), (3, .int u3), (4, .int u4), (5, .int u5), (6, .int (u6 + 1))] [] (SH, S1, T) P from ?_)
            exact (ih.2.2.2.2.2.2.2.2.2) _ _ _ _ _ _ _ _ _ (by omega) hd h
set_option maxHeartbeats 4000000 in
set_option maxRecDepth 100000 in
theorem ok_c_create {L : Nat} {xs : Nat → Int32} {T : Nat → Nat → Int64} {D : Nat} {S : (Nat → Nat → Int32)} {P : (Option Value ⊕ Nat) → xj_W → Nat → Nat → Prop} {a b c : Int32} (hD : 603 ≤ D) (hd : d_c_create a b c S) (h : ∀ v S9, (v, S9) = f_c_create a b c S → P (.inl none) (SH, S9, T) 0 0) : xj_E (xX L xs) D 57 0 [(0, .ref 0), (1, .int a), (2, .int b), (3, .int c)] [] (SH, S, T) P := by
  unfold d_c_create at hd
  unfold f_c_create at h
  exact (okk_c_all 600).1 _ _ _ _ _ _ hD hd h
set_option maxHeartbeats 4000000 in
set_option maxRecDepth 100000 in
theorem ok_c_make {L : Nat} {xs : Nat → Int32} {T : Nat → Nat → Int64} {D : Nat} {S : (Nat → Nat → Int32)} {P : (Option Value ⊕ Nat) → xj_W → Nat → Nat → Prop} {a b c : Int32} (hD : 603 ≤ D) (hd : d_c_make a b c S) (h : ∀ v S9, (v, S9) = f_c_make a b c S → P (.inl none) (SH, S9, T) 0 0) : xj_E (xX L xs) D 58 0 [(0, .ref 0), (1, .int a), (2, .int b), (3, .int c)] [] (SH, S, T) P := by
  unfold d_c_make at hd
  unfold f_c_make at h
  exact (okk_c_all 600).2.1 _ _ _ _ _ _ hD hd h
set_option maxHeartbeats 4000000 in
set_option maxRecDepth 100000 in
theorem ok_c_moveWhatIsIn {L : Nat} {xs : Nat → Int32} {T : Nat → Nat → Int64} {D : Nat} {S : (Nat → Nat → Int32)} {P : (Option Value ⊕ Nat) → xj_W → Nat → Nat → Prop} {a b c : Int32} (hD : 603 ≤ D) (hd : d_c_moveWhatIsIn a b c S) (h : ∀ v S9, (v, S9) = f_c_moveWhatIsIn a b c S → P (.inl none) (SH, S9, T) 0 0) : xj_E (xX L xs) D 62 0 [(0, .ref 0), (1, .int a), (2, .int b), (3, .int c)] [] (SH, S, T) P := by
  unfold d_c_moveWhatIsIn at hd
  unfold f_c_moveWhatIsIn at h
  exact (okk_c_all 600).2.2.1 _ _ _ _ _ _ hD hd h
set_option maxHeartbeats 4000000 in
set_option maxRecDepth 100000 in
theorem ok_c_createWhatIsIn {L : Nat} {xs : Nat → Int32} {T : Nat → Nat → Int64} {D : Nat} {S : (Nat → Nat → Int32)} {P : (Option Value ⊕ Nat) → xj_W → Nat → Nat → Prop} {a b : Int32} (hD : 603 ≤ D) (hd : d_c_createWhatIsIn a b S) (h : ∀ v S9, (v, S9) = f_c_createWhatIsIn a b S → P (.inl none) (SH, S9, T) 0 0) : xj_E (xX L xs) D 63 0 [(0, .ref 0), (1, .int a), (2, .int b)] [] (SH, S, T) P := by
  unfold d_c_createWhatIsIn at hd
  unfold f_c_createWhatIsIn at h
  exact (okk_c_all 600).2.2.2.1 _ _ _ _ _ hD hd h
set_option maxHeartbeats 4000000 in
set_option maxRecDepth 100000 in
theorem ok_c_exitChildren {L : Nat} {xs : Nat → Int32} {T : Nat → Nat → Int64} {D : Nat} {S : (Nat → Nat → Int32)} {P : (Option Value ⊕ Nat) → xj_W → Nat → Nat → Prop} {a b : Int32} (hD : 603 ≤ D) (hd : d_c_exitChildren a b S) (h : ∀ v S9, (v, S9) = f_c_exitChildren a b S → P (.inl none) (SH, S9, T) 0 0) : xj_E (xX L xs) D 64 0 [(0, .ref 0), (1, .int a), (2, .int b)] [] (SH, S, T) P := by
  unfold d_c_exitChildren at hd
  unfold f_c_exitChildren at h
  exact (okk_c_all 600).2.2.2.2.1 _ _ _ _ _ hD hd h
set_option maxHeartbeats 4000000 in
set_option maxRecDepth 100000 in
theorem ok_c_moveChildren {L : Nat} {xs : Nat → Int32} {T : Nat → Nat → Int64} {D : Nat} {S : (Nat → Nat → Int32)} {P : (Option Value ⊕ Nat) → xj_W → Nat → Nat → Prop} {a b c d : Int32} (hD : 603 ≤ D) (hd : d_c_moveChildren a b c d S) (h : ∀ v S9, (v, S9) = f_c_moveChildren a b c d S → P (.inl none) (SH, S9, T) 0 0) : xj_E (xX L xs) D 65 0 [(0, .ref 0), (1, .int a), (2, .int b), (3, .int c), (4, .int d)] [] (SH, S, T) P := by
  unfold d_c_moveChildren at hd
  unfold f_c_moveChildren at h
  exact (okk_c_all 600).2.2.2.2.2.1 _ _ _ _ _ _ _ hD hd h
set_option maxHeartbeats 4000000 in
set_option maxRecDepth 100000 in
theorem ok_c_repeat {L : Nat} {xs : Nat → Int32} {T : Nat → Nat → Int64} {D : Nat} {S : (Nat → Nat → Int32)} {P : (Option Value ⊕ Nat) → xj_W → Nat → Nat → Prop} {a b : Int32} (hD : 603 ≤ D) (hd : d_c_repeat a b S) (h : ∀ v S9, (v, S9) = f_c_repeat a b S → P (.inl none) (SH, S9, T) 0 0) : xj_E (xX L xs) D 66 0 [(0, .ref 0), (1, .int a), (2, .int b)] [] (SH, S, T) P := by
  unfold d_c_repeat at hd
  unfold f_c_repeat at h
  exact (okk_c_all 600).2.2.2.2.2.2.1 _ _ _ _ _ hD hd h
set_option maxHeartbeats 4000000 in
set_option maxRecDepth 100000 in
theorem ok_c_letIn {L : Nat} {xs : Nat → Int32} {T : Nat → Nat → Int64} {D : Nat} {S : (Nat → Nat → Int32)} {P : (Option Value ⊕ Nat) → xj_W → Nat → Nat → Prop} {a : Int32} (hD : 604 ≤ D) (hd : d_c_letIn a S) (h : ∀ v S9, (v, S9) = f_c_letIn a S → P (.inl none) (SH, S9, T) 0 0) : xj_E (xX L xs) D 52 0 [(0, .ref 0), (1, .int a)] [] (SH, S, T) P := by
  unfold d_c_letIn at hd
  unfold f_c_letIn at h
  obtain ⟨D1, rfl⟩ : ∃ D1, D = D1 + 1 := ⟨D - 1, by omega⟩
  refine xj_E.adv 4 (pc' := 8) (ls' := [(0, .ref 0), (1, .int a)]) (st' := [.int a, .ref 15]) (w' := (SH, S, T)) rfl ?_
  refine xj_E.iald rfl rfl hd.1 ?_
  have hd := hd.2
  refine xj_E.adv 5 (pc' := 16) (ls' := [(2, .int (S 15 a.toNatClampNeg)), (0, .ref 0), (1, .int a)]) (st' := [.int 1, .int (S 15 a.toNatClampNeg), .ref 1]) (w' := (SH, S, T)) rfl ?_
  refine xj_E.calli (d := D1) (S := SH) rfl rfl rfl rfl rfl (xj_E.deep (ok_p_hasFlag (d := 0) hd.1 ?_) (by omega))
  intro v e
  subst e
  refine ⟨_, _, _, rfl, rfl, rfl, rfl, ?_⟩
  have hd := hd.2
  refine xj_E.adv 1 (pc' := (if xj_cmp .eq (r_p_hasFlag S (S 15 a.toNatClampNeg) 1) 0 = true then 48 else 22)) (ls' := [(2, .int (S 15 a.toNatClampNeg)), (0, .ref 0), (1, .int a)]) (st' := []) (w' := (SH, S, T)) rfl ?_
  refine xj_E.b_eq (fun q => ?_) (fun q => ?_)
  · have hd := hd.1 q
    have h := fun v S9 e => h v S9 (Eq.trans e (if_pos q).symm)
    refine xj_E.adv 4 (pc' := 56) (ls' := [(2, .int (S 15 a.toNatClampNeg)), (0, .ref 0), (1, .int a)]) (st' := [.int (S 15 a.toNatClampNeg), .ref 2]) (w' := (SH, S, T)) rfl ?_
    refine xj_E.iald rfl rfl hd.1 ?_
    have hd := hd.2
    refine xj_E.adv 2 (pc' := (if xj_cmp .ne (S 2 (S 15 a.toNatClampNeg).toNatClampNeg) 2 = true then 71 else 61)) (ls' := [(2, .int (S 15 a.toNatClampNeg)), (0, .ref 0), (1, .int a)]) (st' := []) (w' := (SH, S, T)) rfl ?_
    refine xj_E.b_ne (fun q => ?_) (fun q => ?_)
    · have hd := hd.1 q
      have h := fun v S9 e => h v S9 (Eq.trans e (if_pos q).symm)
      refine xj_E.adv 6 (pc' := 79) (ls' := [(2, .int (S 15 a.toNatClampNeg)), (0, .ref 0), (1, .int a)]) (st' := [.int 4, .int (S 15 a.toNatClampNeg), .ref 1, .int a, .ref 0]) (w' := (SH, S, T)) rfl ?_
      refine xj_E.calli (d := D1) (S := SH) rfl rfl rfl rfl rfl (xj_E.deep (ok_p_hasFlag (d := 0) hd.1 ?_) (by omega))
      intro v e
      subst e
      refine ⟨_, _, _, rfl, rfl, rfl, rfl, ?_⟩
      have hd := hd.2
      refine xj_E.adv 1 (pc' := (if xj_cmp .eq (r_p_hasFlag S (S 15 a.toNatClampNeg) 4) 0 = true then 89 else 85)) (ls' := [(2, .int (S 15 a.toNatClampNeg)), (0, .ref 0), (1, .int a)]) (st' := [.int a, .ref 0]) (w' := (SH, S, T)) rfl ?_
      refine xj_E.b_eq (fun q => ?_) (fun q => ?_)
      · have hd := hd.1 q
        have h := fun v S9 e => h v S9 (Eq.trans e (if_pos q).symm)
        refine xj_E.adv 2 (pc' := 91) (ls' := [(2, .int (S 15 a.toNatClampNeg)), (0, .ref 0), (1, .int a)]) (st' := [.int 0, .int 2, .int a, .ref 0]) (w' := (SH, S, T)) rfl ?_
        refine xj_E.callv (d := D1) (S := SH) rfl rfl rfl rfl rfl (ok_c_make (by omega) hd.1 ?_)
        intro v1 S1 e1
        refine ⟨_, _, rfl, rfl, rfl, rfl, ?_⟩
        have hd := hd.2
        rw [← e1] at hd h
        exact xj_E.ret rfl rfl rfl rfl (h _ _ rfl)
      · have hd := hd.2 q
        have h := fun v S9 e => h v S9 (Eq.trans e (if_neg q).symm)
        refine xj_E.adv 3 (pc' := 91) (ls' := [(2, .int (S 15 a.toNatClampNeg)), (0, .ref 0), (1, .int a)]) (st' := [.int 0, .int 1, .int a, .ref 0]) (w' := (SH, S, T)) rfl ?_
        refine xj_E.callv (d := D1) (S := SH) rfl rfl rfl rfl rfl (ok_c_make (by omega) hd.1 ?_)
        intro v2 S2 e2
        refine ⟨_, _, rfl, rfl, rfl, rfl, ?_⟩
        have hd := hd.2
        rw [← e2] at hd h
        exact xj_E.ret rfl rfl rfl rfl (h _ _ rfl)
    · have hd := hd.2 q
      have h := fun v S9 e => h v S9 (Eq.trans e (if_neg q).symm)
      refine xj_E.adv 4 (pc' := 65) (ls' := [(2, .int (S 15 a.toNatClampNeg)), (0, .ref 0), (1, .int a)]) (st' := [.int 0, .int 3, .int a, .ref 0]) (w' := (SH, S, T)) rfl ?_
      refine xj_E.callv (d := D1) (S := SH) rfl rfl rfl rfl rfl (ok_c_make (by omega) hd.1 ?_)
      intro v3 S3 e3
      refine ⟨_, _, rfl, rfl, rfl, rfl, ?_⟩
      have hd := hd.2
      rw [← e3] at hd h
      refine xj_E.adv 1 (pc' := 94) (ls' := [(2, .int (S 15 a.toNatClampNeg)), (0, .ref 0), (1, .int a)]) (st' := []) (w' := (SH, S3, T)) rfl ?_
      exact xj_E.ret rfl rfl rfl rfl (h _ _ rfl)
  · have hd := hd.2 q
    have h := fun v S9 e => h v S9 (Eq.trans e (if_neg q).symm)
    refine xj_E.adv 3 (pc' := 27) (ls' := [(2, .int (S 15 a.toNatClampNeg)), (0, .ref 0), (1, .int a)]) (st' := [.int (S 15 a.toNatClampNeg), .ref 1]) (w' := (SH, S, T)) rfl ?_
    refine xj_E.calli (d := D1) (S := SH) rfl rfl rfl rfl rfl (xj_E.deep (ok_p_hasEntry (d := 0) hd.1 ?_) (by omega))
    intro v e
    subst e
    refine ⟨_, _, _, rfl, rfl, rfl, rfl, ?_⟩
    have hd := hd.2
    refine xj_E.adv 1 (pc' := (if xj_cmp .eq (r_p_hasEntry S (S 15 a.toNatClampNeg)) 0 = true then 48 else 33)) (ls' := [(2, .int (S 15 a.toNatClampNeg)), (0, .ref 0), (1, .int a)]) (st' := []) (w' := (SH, S, T)) rfl ?_
    refine xj_E.b_eq (fun q => ?_) (fun q => ?_)
    · have hd := hd.1 q
      have h := fun v S9 e => h v S9 (Eq.trans e (if_pos q).symm)
      refine xj_E.adv 4 (pc' := 56) (ls' := [(2, .int (S 15 a.toNatClampNeg)), (0, .ref 0), (1, .int a)]) (st' := [.int (S 15 a.toNatClampNeg), .ref 2]) (w' := (SH, S, T)) rfl ?_
      refine xj_E.iald rfl rfl hd.1 ?_
      have hd := hd.2
      refine xj_E.adv 2 (pc' := (if xj_cmp .ne (S 2 (S 15 a.toNatClampNeg).toNatClampNeg) 2 = true then 71 else 61)) (ls' := [(2, .int (S 15 a.toNatClampNeg)), (0, .ref 0), (1, .int a)]) (st' := []) (w' := (SH, S, T)) rfl ?_
      refine xj_E.b_ne (fun q => ?_) (fun q => ?_)
      · have hd := hd.1 q
        have h := fun v S9 e => h v S9 (Eq.trans e (if_pos q).symm)
        refine xj_E.adv 6 (pc' := 79) (ls' := [(2, .int (S 15 a.toNatClampNeg)), (0, .ref 0), (1, .int a)]) (st' := [.int 4, .int (S 15 a.toNatClampNeg), .ref 1, .int a, .ref 0]) (w' := (SH, S, T)) rfl ?_
        refine xj_E.calli (d := D1) (S := SH) rfl rfl rfl rfl rfl (xj_E.deep (ok_p_hasFlag (d := 0) hd.1 ?_) (by omega))
        intro v e
        subst e
        refine ⟨_, _, _, rfl, rfl, rfl, rfl, ?_⟩
        have hd := hd.2
        refine xj_E.adv 1 (pc' := (if xj_cmp .eq (r_p_hasFlag S (S 15 a.toNatClampNeg) 4) 0 = true then 89 else 85)) (ls' := [(2, .int (S 15 a.toNatClampNeg)), (0, .ref 0), (1, .int a)]) (st' := [.int a, .ref 0]) (w' := (SH, S, T)) rfl ?_
        refine xj_E.b_eq (fun q => ?_) (fun q => ?_)
        · have hd := hd.1 q
          have h := fun v S9 e => h v S9 (Eq.trans e (if_pos q).symm)
          refine xj_E.adv 2 (pc' := 91) (ls' := [(2, .int (S 15 a.toNatClampNeg)), (0, .ref 0), (1, .int a)]) (st' := [.int 0, .int 2, .int a, .ref 0]) (w' := (SH, S, T)) rfl ?_
          refine xj_E.callv (d := D1) (S := SH) rfl rfl rfl rfl rfl (ok_c_make (by omega) hd.1 ?_)
          intro v4 S4 e4
          refine ⟨_, _, rfl, rfl, rfl, rfl, ?_⟩
          have hd := hd.2
          rw [← e4] at hd h
          exact xj_E.ret rfl rfl rfl rfl (h _ _ rfl)
        · have hd := hd.2 q
          have h := fun v S9 e => h v S9 (Eq.trans e (if_neg q).symm)
          refine xj_E.adv 3 (pc' := 91) (ls' := [(2, .int (S 15 a.toNatClampNeg)), (0, .ref 0), (1, .int a)]) (st' := [.int 0, .int 1, .int a, .ref 0]) (w' := (SH, S, T)) rfl ?_
          refine xj_E.callv (d := D1) (S := SH) rfl rfl rfl rfl rfl (ok_c_make (by omega) hd.1 ?_)
          intro v5 S5 e5
          refine ⟨_, _, rfl, rfl, rfl, rfl, ?_⟩
          have hd := hd.2
          rw [← e5] at hd h
          exact xj_E.ret rfl rfl rfl rfl (h _ _ rfl)
      · have hd := hd.2 q
        have h := fun v S9 e => h v S9 (Eq.trans e (if_neg q).symm)
        refine xj_E.adv 4 (pc' := 65) (ls' := [(2, .int (S 15 a.toNatClampNeg)), (0, .ref 0), (1, .int a)]) (st' := [.int 0, .int 3, .int a, .ref 0]) (w' := (SH, S, T)) rfl ?_
        refine xj_E.callv (d := D1) (S := SH) rfl rfl rfl rfl rfl (ok_c_make (by omega) hd.1 ?_)
        intro v6 S6 e6
        refine ⟨_, _, rfl, rfl, rfl, rfl, ?_⟩
        have hd := hd.2
        rw [← e6] at hd h
        refine xj_E.adv 1 (pc' := 94) (ls' := [(2, .int (S 15 a.toNatClampNeg)), (0, .ref 0), (1, .int a)]) (st' := []) (w' := (SH, S6, T)) rfl ?_
        exact xj_E.ret rfl rfl rfl rfl (h _ _ rfl)
    · have hd := hd.2 q
      have h := fun v S9 e => h v S9 (Eq.trans e (if_neg q).symm)
      refine xj_E.adv 6 (pc' := 43) (ls' := [(2, .int (S 15 a.toNatClampNeg)), (0, .ref 0), (1, .int a)]) (st' := [.int a, .ref 16, .int (S 15 a.toNatClampNeg), .ref 0]) (w' := (SH, S, T)) rfl ?_
      refine xj_E.iald rfl rfl hd.1 ?_
      have hd := hd.2
      refine xj_E.adv 1 (pc' := 45) (ls' := [(2, .int (S 15 a.toNatClampNeg)), (0, .ref 0), (1, .int a)]) (st' := [.int 0, .int (S 16 a.toNatClampNeg), .int (S 15 a.toNatClampNeg), .ref 0]) (w' := (SH, S, T)) rfl ?_
      refine xj_E.callv (d := D1) (S := SH) rfl rfl rfl rfl rfl (ok_c_create (by omega) hd.1 ?_)
      intro v7 S7 e7
      refine ⟨_, _, rfl, rfl, rfl, rfl, ?_⟩
      have hd := hd.2
      rw [← e7] at hd h
      refine xj_E.adv 4 (pc' := 56) (ls' := [(2, .int (S 15 a.toNatClampNeg)), (0, .ref 0), (1, .int a)]) (st' := [.int (S 15 a.toNatClampNeg), .ref 2]) (w' := (SH, S7, T)) rfl ?_
      refine xj_E.iald rfl rfl hd.1 ?_
      have hd := hd.2
      refine xj_E.adv 2 (pc' := (if xj_cmp .ne (S7 2 (S 15 a.toNatClampNeg).toNatClampNeg) 2 = true then 71 else 61)) (ls' := [(2, .int (S 15 a.toNatClampNeg)), (0, .ref 0), (1, .int a)]) (st' := []) (w' := (SH, S7, T)) rfl ?_
      refine xj_E.b_ne (fun q => ?_) (fun q => ?_)
      · have hd := hd.1 q
        have h := fun v S9 e => h v S9 (Eq.trans e (if_pos q).symm)
        refine xj_E.adv 6 (pc' := 79) (ls' := [(2, .int (S 15 a.toNatClampNeg)), (0, .ref 0), (1, .int a)]) (st' := [.int 4, .int (S 15 a.toNatClampNeg), .ref 1, .int a, .ref 0]) (w' := (SH, S7, T)) rfl ?_
        refine xj_E.calli (d := D1) (S := SH) rfl rfl rfl rfl rfl (xj_E.deep (ok_p_hasFlag (d := 0) hd.1 ?_) (by omega))
        intro v e
        subst e
        refine ⟨_, _, _, rfl, rfl, rfl, rfl, ?_⟩
        have hd := hd.2
        refine xj_E.adv 1 (pc' := (if xj_cmp .eq (r_p_hasFlag S7 (S 15 a.toNatClampNeg) 4) 0 = true then 89 else 85)) (ls' := [(2, .int (S 15 a.toNatClampNeg)), (0, .ref 0), (1, .int a)]) (st' := [.int a, .ref 0]) (w' := (SH, S7, T)) rfl ?_
        refine xj_E.b_eq (fun q => ?_) (fun q => ?_)
        · have hd := hd.1 q
          have h := fun v S9 e => h v S9 (Eq.trans e (if_pos q).symm)
          refine xj_E.adv 2 (pc' := 91) (ls' := [(2, .int (S 15 a.toNatClampNeg)), (0, .ref 0), (1, .int a)]) (st' := [.int 0, .int 2, .int a, .ref 0]) (w' := (SH, S7, T)) rfl ?_
          refine xj_E.callv (d := D1) (S := SH) rfl rfl rfl rfl rfl (ok_c_make (by omega) hd.1 ?_)
          intro v8 S8 e8
          refine ⟨_, _, rfl, rfl, rfl, rfl, ?_⟩
          have hd := hd.2
          rw [← e8] at hd h
          exact xj_E.ret rfl rfl rfl rfl (h _ _ rfl)
        · have hd := hd.2 q
          have h := fun v S9 e => h v S9 (Eq.trans e (if_neg q).symm)
          refine xj_E.adv 3 (pc' := 91) (ls' := [(2, .int (S 15 a.toNatClampNeg)), (0, .ref 0), (1, .int a)]) (st' := [.int 0, .int 1, .int a, .ref 0]) (w' := (SH, S7, T)) rfl ?_
          refine xj_E.callv (d := D1) (S := SH) rfl rfl rfl rfl rfl (ok_c_make (by omega) hd.1 ?_)
          intro v9 S9 e9
          refine ⟨_, _, rfl, rfl, rfl, rfl, ?_⟩
          have hd := hd.2
          rw [← e9] at hd h
          exact xj_E.ret rfl rfl rfl rfl (h _ _ rfl)
      · have hd := hd.2 q
        have h := fun v S9 e => h v S9 (Eq.trans e (if_neg q).symm)
        refine xj_E.adv 4 (pc' := 65) (ls' := [(2, .int (S 15 a.toNatClampNeg)), (0, .ref 0), (1, .int a)]) (st' := [.int 0, .int 3, .int a, .ref 0]) (w' := (SH, S7, T)) rfl ?_
        refine xj_E.callv (d := D1) (S := SH) rfl rfl rfl rfl rfl (ok_c_make (by omega) hd.1 ?_)
        intro v10 S10 e10
        refine ⟨_, _, rfl, rfl, rfl, rfl, ?_⟩
        have hd := hd.2
        rw [← e10] at hd h
        refine xj_E.adv 1 (pc' := 94) (ls' := [(2, .int (S 15 a.toNatClampNeg)), (0, .ref 0), (1, .int a)]) (st' := []) (w' := (SH, S10, T)) rfl ?_
        exact xj_E.ret rfl rfl rfl rfl (h _ _ rfl)
