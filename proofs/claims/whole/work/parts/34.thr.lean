/-! methods that may throw: our machine does so -/
theorem xj_E.callt {X : xj_T} {d m pc nx kd u : Nat} {ls : List (Nat × Value)} {st av rest : List Value} {w : xj_W} {P : (Option Value ⊕ Nat) → xj_W → Nat → Nat → Prop} {i : Instr} (hcd : xj_cd X m pc = some (i, nx)) (hs : xj_step X m i nx pc ls st w = none) (hi : xj_inv X m i st w = some (kd, u, av, rest)) (hsf : xj_safe w.1.length ls rest = true) (hon : xj_one av = true) (hk : kd = 1) (hca : ∀ q, xj_ca X m pc q = some none)
    (h : xj_E X d u 0 (lv_args 0 av) [] w (fun o w' c z => match o with
      | .inl v => c = 0 ∧ z = 0 ∧ xj_E X (d + 1) m nx ls (v.toList ++ rest) w' P
      | .inr q => P (.inr q) w' c z)) : xj_E X (d + 1) m pc ls st w P := by
  refine xj_E.call hcd hs hi hsf hon (h.mono ?_)
  intro o w' c z hh
  cases o with
  | inl v =>
    obtain ⟨h1, h2, h3⟩ := hh
    subst h1
    subst h2
    exact h3.mono (fun o2 w2 c2 z2 h2 => by rw [Nat.zero_add, Nat.zero_add]; exact h2)
  | inr q =>
    refine ⟨hk, ?_⟩
    rw [hca q]
    exact hh
seal f_l_copyFrom14 d_l_copyFrom14 f_l_copyFrom23 d_l_copyFrom23 f_l_add d_l_add f_l_note d_l_note f_p_addItem d_p_addItem f_p_addSentry d_p_addSentry f_p_addPart d_p_addPart f_p_putIfPart d_p_putIfPart f_c_openCommand d_c_openCommand f_c_mark d_c_mark f_m_fail d_m_fail f_m_item d_m_item f_m_sentry d_m_sentry f_m_on d_m_on f_m_when d_m_when f_m_book d_m_book f_m_mark d_m_mark f_m_create d_m_create f_m_again d_m_again f_m_keep d_m_keep f_m_putBack d_m_putBack f_m_can d_m_can f_m_markVariable d_m_markVariable f_m_value d_m_value f_m_instances d_m_instances f_m_instance d_m_instance f_m_marked d_m_marked f_m_moves d_m_moves f_m_history d_m_history f_c_markSiblings d_c_markSiblings f_c_markAll d_c_markAll f_m_enter d_m_enter f_m_make d_m_make f_m_letIn d_m_letIn f_m_workOff d_m_workOff f_m_finish d_m_finish f_m_begin d_m_begin f_m_move d_m_move f_m_set d_m_set f_c_create d_c_create f_c_make d_c_make f_c_moveWhatIsIn d_c_moveWhatIsIn f_c_createWhatIsIn d_c_createWhatIsIn f_c_exitChildren d_c_exitChildren f_c_moveChildren d_c_moveChildren f_c_repeat d_c_repeat f_c_letIn d_c_letIn f_c_item d_c_item f_c_sentry d_c_sentry f_c_on d_c_on f_c_when d_c_when f_c_workOff d_c_workOff f_c_begin d_c_begin f_c_move d_c_move f_c_set d_c_set
set_option maxHeartbeats 4000000 in
set_option maxRecDepth 100000 in
theorem ok_c_item {L : Nat} {xs : Nat → Int32} {T : Nat → Nat → Int64} {D : Nat} {S : (Nat → Nat → Int32)} {P : (Option Value ⊕ Nat) → xj_W → Nat → Nat → Prop} {a b c : Int32} (hD : 2 ≤ D) (hd : d_c_item a b c S) (h : ∀ v S9, (0, v, S9) = f_c_item a b c S → P (.inl (some (.int v))) (SH, S9, T) 0 0) (ht : ∀ q v S9, (q + 1, v, S9) = f_c_item a b c S → P (.inr q) (SH, S9, T) 1 6) : xj_E (xX L xs) D 28 0 [(0, .ref 0), (1, .int a), (2, .int b), (3, .int c)] [] (SH, S, T) P := by
  unfold d_c_item at hd
  unfold f_c_item at h
  obtain ⟨D1, rfl⟩ : ∃ D1, D = D1 + 1 := ⟨D - 1, by omega⟩
  refine xj_E.adv 2 (pc' := 4) (ls' := [(0, .ref 0), (1, .int a), (2, .int b), (3, .int c)]) (st' := [.ref 14]) (w' := (SH, S, T)) rfl ?_
  refine xj_E.calli (d := D1) (S := SH) rfl rfl rfl rfl rfl (xj_E.deep (ok_l_hasBegun (d := 0) hd.1 ?_) (by omega))
  intro v e
  subst e
  refine ⟨_, _, _, rfl, rfl, rfl, rfl, ?_⟩
  have hd := hd.2
  refine xj_E.adv 1 (pc' := (if xj_cmp .ne (r_l_hasBegun S) 0 = true then 22 else 10)) (ls' := [(0, .ref 0), (1, .int a), (2, .int b), (3, .int c)]) (st' := []) (w' := (SH, S, T)) rfl ?_
  refine xj_E.b_ne (fun q => ?_) (fun q => ?_)
  · have hd := hd.1 q
    have h := fun v S9 e => h v S9 (Eq.trans e (if_pos q).symm); have ht := fun q_ v S9 e => ht q_ v S9 (Eq.trans e (if_pos q).symm)
    exact xj_E.thr rfl rfl rfl rfl rfl (ht 0 _ _ rfl)
  · have hd := hd.2 q
    have h := fun v S9 e => h v S9 (Eq.trans e (if_neg q).symm); have ht := fun q_ v S9 e => ht q_ v S9 (Eq.trans e (if_neg q).symm)
    refine xj_E.adv 5 (pc' := (if xj_cmp .ne (S 1 0) 12 = true then 32 else 22)) (ls' := [(0, .ref 0), (1, .int a), (2, .int b), (3, .int c)]) (st' := []) (w' := (SH, S, T)) rfl ?_
    refine xj_E.b_ne (fun q => ?_) (fun q => ?_)
    · have hd := hd.1 q
      have h := fun v S9 e => h v S9 (Eq.trans e (if_pos q).symm); have ht := fun q_ v S9 e => ht q_ v S9 (Eq.trans e (if_pos q).symm)
      refine xj_E.adv 2 (pc' := (if xj_cmp .lt c 0 = true then 57 else 36)) (ls' := [(0, .ref 0), (1, .int a), (2, .int b), (3, .int c)]) (st' := []) (w' := (SH, S, T)) rfl ?_
      refine xj_E.b_lt (fun q => ?_) (fun q => ?_)
      · have hd := hd.1 q
        have h := fun v S9 e => h v S9 (Eq.trans e (if_pos q).symm); have ht := fun q_ v S9 e => ht q_ v S9 (Eq.trans e (if_pos q).symm)
        refine xj_E.adv 4 (pc' := (if xj_cmp .lt a 0 = true then 85 else 64)) (ls' := [(4, .int 0), (0, .ref 0), (1, .int a), (2, .int b), (3, .int c)]) (st' := []) (w' := (SH, S, T)) rfl ?_
        refine xj_E.b_lt (fun q => ?_) (fun q => ?_)
        · have hd := hd.1 q
          have h := fun v S9 e => h v S9 (Eq.trans e (if_pos q).symm); have ht := fun q_ v S9 e => ht q_ v S9 (Eq.trans e (if_pos q).symm)
          exact xj_E.thr rfl rfl rfl rfl rfl (ht 1 _ _ rfl)
        · have hd := hd.2 q
          have h := fun v S9 e => h v S9 (Eq.trans e (if_neg q).symm); have ht := fun q_ v S9 e => ht q_ v S9 (Eq.trans e (if_neg q).symm)
          refine xj_E.adv 3 (pc' := (if xj_cmp .gt a 3 = true then 85 else 69)) (ls' := [(4, .int 0), (0, .ref 0), (1, .int a), (2, .int b), (3, .int c)]) (st' := []) (w' := (SH, S, T)) rfl ?_
          refine xj_E.b_gt (fun q => ?_) (fun q => ?_)
          · have hd := hd.1 q
            have h := fun v S9 e => h v S9 (Eq.trans e (if_pos q).symm); have ht := fun q_ v S9 e => ht q_ v S9 (Eq.trans e (if_pos q).symm)
            exact xj_E.thr rfl rfl rfl rfl rfl (ht 1 _ _ rfl)
          · have hd := hd.2 q
            have h := fun v S9 e => h v S9 (Eq.trans e (if_neg q).symm); have ht := fun q_ v S9 e => ht q_ v S9 (Eq.trans e (if_neg q).symm)
            refine xj_E.adv 3 (pc' := 74) (ls' := [(4, .int 0), (0, .ref 0), (1, .int a), (2, .int b), (3, .int c)]) (st' := [.int b, .ref 1]) (w' := (SH, S, T)) rfl ?_
            refine xj_E.calli (d := D1) (S := SH) rfl rfl rfl rfl rfl (xj_E.deep (ok_p_isStage (d := 0) hd.1 ?_) (by omega))
            intro v e
            subst e
            refine ⟨_, _, _, rfl, rfl, rfl, rfl, ?_⟩
            have hd := hd.2
            refine xj_E.adv 1 (pc' := (if xj_cmp .eq (r_p_isStage S b) 0 = true then 85 else 80)) (ls' := [(4, .int 0), (0, .ref 0), (1, .int a), (2, .int b), (3, .int c)]) (st' := []) (w' := (SH, S, T)) rfl ?_
            refine xj_E.b_eq (fun q => ?_) (fun q => ?_)
            · have hd := hd.1 q
              have h := fun v S9 e => h v S9 (Eq.trans e (if_pos q).symm); have ht := fun q_ v S9 e => ht q_ v S9 (Eq.trans e (if_pos q).symm)
              exact xj_E.thr rfl rfl rfl rfl rfl (ht 1 _ _ rfl)
            · have hd := hd.2 q
              have h := fun v S9 e => h v S9 (Eq.trans e (if_neg q).symm); have ht := fun q_ v S9 e => ht q_ v S9 (Eq.trans e (if_neg q).symm)
              refine xj_E.adv 2 (pc' := 85) (ls' := [(4, .int 0), (0, .ref 0), (1, .int a), (2, .int b), (3, .int c)]) (st' := []) (w' := (SH, S, T)) rfl ?_
              exact xj_E.thr rfl rfl rfl rfl rfl (ht 1 _ _ rfl)
      · have hd := hd.2 q
        have h := fun v S9 e => h v S9 (Eq.trans e (if_neg q).symm); have ht := fun q_ v S9 e => ht q_ v S9 (Eq.trans e (if_neg q).symm)
        refine xj_E.adv 3 (pc' := (if xj_cmp .gt c 15 = true then 57 else 42)) (ls' := [(0, .ref 0), (1, .int a), (2, .int b), (3, .int c)]) (st' := []) (w' := (SH, S, T)) rfl ?_
        refine xj_E.b_gt (fun q => ?_) (fun q => ?_)
        · have hd := hd.1 q
          have h := fun v S9 e => h v S9 (Eq.trans e (if_pos q).symm); have ht := fun q_ v S9 e => ht q_ v S9 (Eq.trans e (if_pos q).symm)
          refine xj_E.adv 4 (pc' := (if xj_cmp .lt a 0 = true then 85 else 64)) (ls' := [(4, .int 0), (0, .ref 0), (1, .int a), (2, .int b), (3, .int c)]) (st' := []) (w' := (SH, S, T)) rfl ?_
          refine xj_E.b_lt (fun q => ?_) (fun q => ?_)
          · have hd := hd.1 q
            have h := fun v S9 e => h v S9 (Eq.trans e (if_pos q).symm); have ht := fun q_ v S9 e => ht q_ v S9 (Eq.trans e (if_pos q).symm)
            exact xj_E.thr rfl rfl rfl rfl rfl (ht 1 _ _ rfl)
          · have hd := hd.2 q
            have h := fun v S9 e => h v S9 (Eq.trans e (if_neg q).symm); have ht := fun q_ v S9 e => ht q_ v S9 (Eq.trans e (if_neg q).symm)
            refine xj_E.adv 3 (pc' := (if xj_cmp .gt a 3 = true then 85 else 69)) (ls' := [(4, .int 0), (0, .ref 0), (1, .int a), (2, .int b), (3, .int c)]) (st' := []) (w' := (SH, S, T)) rfl ?_
            refine xj_E.b_gt (fun q => ?_) (fun q => ?_)
            · have hd := hd.1 q
              have h := fun v S9 e => h v S9 (Eq.trans e (if_pos q).symm); have ht := fun q_ v S9 e => ht q_ v S9 (Eq.trans e (if_pos q).symm)
              exact xj_E.thr rfl rfl rfl rfl rfl (ht 1 _ _ rfl)
            · have hd := hd.2 q
              have h := fun v S9 e => h v S9 (Eq.trans e (if_neg q).symm); have ht := fun q_ v S9 e => ht q_ v S9 (Eq.trans e (if_neg q).symm)
              refine xj_E.adv 3 (pc' := 74) (ls' := [(4, .int 0), (0, .ref 0), (1, .int a), (2, .int b), (3, .int c)]) (st' := [.int b, .ref 1]) (w' := (SH, S, T)) rfl ?_
              refine xj_E.calli (d := D1) (S := SH) rfl rfl rfl rfl rfl (xj_E.deep (ok_p_isStage (d := 0) hd.1 ?_) (by omega))
              intro v e
              subst e
              refine ⟨_, _, _, rfl, rfl, rfl, rfl, ?_⟩
              have hd := hd.2
              refine xj_E.adv 1 (pc' := (if xj_cmp .eq (r_p_isStage S b) 0 = true then 85 else 80)) (ls' := [(4, .int 0), (0, .ref 0), (1, .int a), (2, .int b), (3, .int c)]) (st' := []) (w' := (SH, S, T)) rfl ?_
              refine xj_E.b_eq (fun q => ?_) (fun q => ?_)
              · have hd := hd.1 q
                have h := fun v S9 e => h v S9 (Eq.trans e (if_pos q).symm); have ht := fun q_ v S9 e => ht q_ v S9 (Eq.trans e (if_pos q).symm)
                exact xj_E.thr rfl rfl rfl rfl rfl (ht 1 _ _ rfl)
              · have hd := hd.2 q
                have h := fun v S9 e => h v S9 (Eq.trans e (if_neg q).symm); have ht := fun q_ v S9 e => ht q_ v S9 (Eq.trans e (if_neg q).symm)
                refine xj_E.adv 2 (pc' := 85) (ls' := [(4, .int 0), (0, .ref 0), (1, .int a), (2, .int b), (3, .int c)]) (st' := []) (w' := (SH, S, T)) rfl ?_
                exact xj_E.thr rfl rfl rfl rfl rfl (ht 1 _ _ rfl)
        · have hd := hd.2 q
          have h := fun v S9 e => h v S9 (Eq.trans e (if_neg q).symm); have ht := fun q_ v S9 e => ht q_ v S9 (Eq.trans e (if_neg q).symm)
          refine xj_E.adv 4 (pc' := (if xj_cmp .eq (c &&& 8) 0 = true then 53 else 49)) (ls' := [(0, .ref 0), (1, .int a), (2, .int b), (3, .int c)]) (st' := []) (w' := (SH, S, T)) rfl ?_
          refine xj_E.b_eq (fun q => ?_) (fun q => ?_)
          · have hd := hd.1 q
            have h := fun v S9 e => h v S9 (Eq.trans e (if_pos q).symm); have ht := fun q_ v S9 e => ht q_ v S9 (Eq.trans e (if_pos q).symm)
            refine xj_E.adv 5 (pc' := (if xj_cmp .lt a 0 = true then 85 else 64)) (ls' := [(4, .int 1), (0, .ref 0), (1, .int a), (2, .int b), (3, .int c)]) (st' := []) (w' := (SH, S, T)) rfl ?_
            refine xj_E.b_lt (fun q => ?_) (fun q => ?_)
            · have hd := hd.1 q
              have h := fun v S9 e => h v S9 (Eq.trans e (if_pos q).symm); have ht := fun q_ v S9 e => ht q_ v S9 (Eq.trans e (if_pos q).symm)
              exact xj_E.thr rfl rfl rfl rfl rfl (ht 1 _ _ rfl)
            · have hd := hd.2 q
              have h := fun v S9 e => h v S9 (Eq.trans e (if_neg q).symm); have ht := fun q_ v S9 e => ht q_ v S9 (Eq.trans e (if_neg q).symm)
              refine xj_E.adv 3 (pc' := (if xj_cmp .gt a 3 = true then 85 else 69)) (ls' := [(4, .int 1), (0, .ref 0), (1, .int a), (2, .int b), (3, .int c)]) (st' := []) (w' := (SH, S, T)) rfl ?_
              refine xj_E.b_gt (fun q => ?_) (fun q => ?_)
              · have hd := hd.1 q
                have h := fun v S9 e => h v S9 (Eq.trans e (if_pos q).symm); have ht := fun q_ v S9 e => ht q_ v S9 (Eq.trans e (if_pos q).symm)
                exact xj_E.thr rfl rfl rfl rfl rfl (ht 1 _ _ rfl)
              · have hd := hd.2 q
                have h := fun v S9 e => h v S9 (Eq.trans e (if_neg q).symm); have ht := fun q_ v S9 e => ht q_ v S9 (Eq.trans e (if_neg q).symm)
                refine xj_E.adv 3 (pc' := 74) (ls' := [(4, .int 1), (0, .ref 0), (1, .int a), (2, .int b), (3, .int c)]) (st' := [.int b, .ref 1]) (w' := (SH, S, T)) rfl ?_
                refine xj_E.calli (d := D1) (S := SH) rfl rfl rfl rfl rfl (xj_E.deep (ok_p_isStage (d := 0) hd.1 ?_) (by omega))
                intro v e
                subst e
                refine ⟨_, _, _, rfl, rfl, rfl, rfl, ?_⟩
                have hd := hd.2
                refine xj_E.adv 1 (pc' := (if xj_cmp .eq (r_p_isStage S b) 0 = true then 85 else 80)) (ls' := [(4, .int 1), (0, .ref 0), (1, .int a), (2, .int b), (3, .int c)]) (st' := []) (w' := (SH, S, T)) rfl ?_
                refine xj_E.b_eq (fun q => ?_) (fun q => ?_)
                · have hd := hd.1 q
                  have h := fun v S9 e => h v S9 (Eq.trans e (if_pos q).symm); have ht := fun q_ v S9 e => ht q_ v S9 (Eq.trans e (if_pos q).symm)
                  exact xj_E.thr rfl rfl rfl rfl rfl (ht 1 _ _ rfl)
                · have hd := hd.2 q
                  have h := fun v S9 e => h v S9 (Eq.trans e (if_neg q).symm); have ht := fun q_ v S9 e => ht q_ v S9 (Eq.trans e (if_neg q).symm)
                  refine xj_E.adv 7 (pc' := 102) (ls' := [(4, .int 1), (0, .ref 0), (1, .int a), (2, .int b), (3, .int c)]) (st' := [.int c, .int b, .int a, .ref 1]) (w' := (SH, S, T)) rfl ?_
                  refine xj_E.calli (d := D1) (S := SH) rfl rfl rfl rfl rfl (ok_p_addItem (by omega) hd.1 ?_)
                  intro v1 S1 e1
                  refine ⟨_, _, _, rfl, rfl, rfl, rfl, ?_⟩
                  have hd := hd.2
                  rw [← e1] at hd h ht
                  exact xj_E.ret rfl rfl rfl rfl (h _ _ rfl)
          · have hd := hd.2 q
            have h := fun v S9 e => h v S9 (Eq.trans e (if_neg q).symm); have ht := fun q_ v S9 e => ht q_ v S9 (Eq.trans e (if_neg q).symm)
            refine xj_E.adv 2 (pc' := (if xj_cmp .ne a 0 = true then 57 else 53)) (ls' := [(0, .ref 0), (1, .int a), (2, .int b), (3, .int c)]) (st' := []) (w' := (SH, S, T)) rfl ?_
            refine xj_E.b_ne (fun q => ?_) (fun q => ?_)
            · have hd := hd.1 q
              have h := fun v S9 e => h v S9 (Eq.trans e (if_pos q).symm); have ht := fun q_ v S9 e => ht q_ v S9 (Eq.trans e (if_pos q).symm)
              refine xj_E.adv 4 (pc' := (if xj_cmp .lt a 0 = true then 85 else 64)) (ls' := [(4, .int 0), (0, .ref 0), (1, .int a), (2, .int b), (3, .int c)]) (st' := []) (w' := (SH, S, T)) rfl ?_
              refine xj_E.b_lt (fun q => ?_) (fun q => ?_)
              · have hd := hd.1 q
                have h := fun v S9 e => h v S9 (Eq.trans e (if_pos q).symm); have ht := fun q_ v S9 e => ht q_ v S9 (Eq.trans e (if_pos q).symm)
                exact xj_E.thr rfl rfl rfl rfl rfl (ht 1 _ _ rfl)
              · have hd := hd.2 q
                have h := fun v S9 e => h v S9 (Eq.trans e (if_neg q).symm); have ht := fun q_ v S9 e => ht q_ v S9 (Eq.trans e (if_neg q).symm)
                refine xj_E.adv 3 (pc' := (if xj_cmp .gt a 3 = true then 85 else 69)) (ls' := [(4, .int 0), (0, .ref 0), (1, .int a), (2, .int b), (3, .int c)]) (st' := []) (w' := (SH, S, T)) rfl ?_
                refine xj_E.b_gt (fun q => ?_) (fun q => ?_)
                · have hd := hd.1 q
                  have h := fun v S9 e => h v S9 (Eq.trans e (if_pos q).symm); have ht := fun q_ v S9 e => ht q_ v S9 (Eq.trans e (if_pos q).symm)
                  exact xj_E.thr rfl rfl rfl rfl rfl (ht 1 _ _ rfl)
                · have hd := hd.2 q
                  have h := fun v S9 e => h v S9 (Eq.trans e (if_neg q).symm); have ht := fun q_ v S9 e => ht q_ v S9 (Eq.trans e (if_neg q).symm)
                  refine xj_E.adv 3 (pc' := 74) (ls' := [(4, .int 0), (0, .ref 0), (1, .int a), (2, .int b), (3, .int c)]) (st' := [.int b, .ref 1]) (w' := (SH, S, T)) rfl ?_
                  refine xj_E.calli (d := D1) (S := SH) rfl rfl rfl rfl rfl (xj_E.deep (ok_p_isStage (d := 0) hd.1 ?_) (by omega))
                  intro v e
                  subst e
                  refine ⟨_, _, _, rfl, rfl, rfl, rfl, ?_⟩
                  have hd := hd.2
                  refine xj_E.adv 1 (pc' := (if xj_cmp .eq (r_p_isStage S b) 0 = true then 85 else 80)) (ls' := [(4, .int 0), (0, .ref 0), (1, .int a), (2, .int b), (3, .int c)]) (st' := []) (w' := (SH, S, T)) rfl ?_
                  refine xj_E.b_eq (fun q => ?_) (fun q => ?_)
                  · have hd := hd.1 q
                    have h := fun v S9 e => h v S9 (Eq.trans e (if_pos q).symm); have ht := fun q_ v S9 e => ht q_ v S9 (Eq.trans e (if_pos q).symm)
                    exact xj_E.thr rfl rfl rfl rfl rfl (ht 1 _ _ rfl)
                  · have hd := hd.2 q
                    have h := fun v S9 e => h v S9 (Eq.trans e (if_neg q).symm); have ht := fun q_ v S9 e => ht q_ v S9 (Eq.trans e (if_neg q).symm)
                    refine xj_E.adv 2 (pc' := 85) (ls' := [(4, .int 0), (0, .ref 0), (1, .int a), (2, .int b), (3, .int c)]) (st' := []) (w' := (SH, S, T)) rfl ?_
                    exact xj_E.thr rfl rfl rfl rfl rfl (ht 1 _ _ rfl)
            · have hd := hd.2 q
              have h := fun v S9 e => h v S9 (Eq.trans e (if_neg q).symm); have ht := fun q_ v S9 e => ht q_ v S9 (Eq.trans e (if_neg q).symm)
              refine xj_E.adv 5 (pc' := (if xj_cmp .lt a 0 = true then 85 else 64)) (ls' := [(4, .int 1), (0, .ref 0), (1, .int a), (2, .int b), (3, .int c)]) (st' := []) (w' := (SH, S, T)) rfl ?_
              refine xj_E.b_lt (fun q => ?_) (fun q => ?_)
              · have hd := hd.1 q
                have h := fun v S9 e => h v S9 (Eq.trans e (if_pos q).symm); have ht := fun q_ v S9 e => ht q_ v S9 (Eq.trans e (if_pos q).symm)
                exact xj_E.thr rfl rfl rfl rfl rfl (ht 1 _ _ rfl)
              · have hd := hd.2 q
                have h := fun v S9 e => h v S9 (Eq.trans e (if_neg q).symm); have ht := fun q_ v S9 e => ht q_ v S9 (Eq.trans e (if_neg q).symm)
                refine xj_E.adv 3 (pc' := (if xj_cmp .gt a 3 = true then 85 else 69)) (ls' := [(4, .int 1), (0, .ref 0), (1, .int a), (2, .int b), (3, .int c)]) (st' := []) (w' := (SH, S, T)) rfl ?_
                refine xj_E.b_gt (fun q => ?_) (fun q => ?_)
                · have hd := hd.1 q
                  have h := fun v S9 e => h v S9 (Eq.trans e (if_pos q).symm); have ht := fun q_ v S9 e => ht q_ v S9 (Eq.trans e (if_pos q).symm)
                  exact xj_E.thr rfl rfl rfl rfl rfl (ht 1 _ _ rfl)
                · have hd := hd.2 q
                  have h := fun v S9 e => h v S9 (Eq.trans e (if_neg q).symm); have ht := fun q_ v S9 e => ht q_ v S9 (Eq.trans e (if_neg q).symm)
                  refine xj_E.adv 3 (pc' := 74) (ls' := [(4, .int 1), (0, .ref 0), (1, .int a), (2, .int b), (3, .int c)]) (st' := [.int b, .ref 1]) (w' := (SH, S, T)) rfl ?_
                  refine xj_E.calli (d := D1) (S := SH) rfl rfl rfl rfl rfl (xj_E.deep (ok_p_isStage (d := 0) hd.1 ?_) (by omega))
                  intro v e
                  subst e
                  refine ⟨_, _, _, rfl, rfl, rfl, rfl, ?_⟩
                  have hd := hd.2
                  refine xj_E.adv 1 (pc' := (if xj_cmp .eq (r_p_isStage S b) 0 = true then 85 else 80)) (ls' := [(4, .int 1), (0, .ref 0), (1, .int a), (2, .int b), (3, .int c)]) (st' := []) (w' := (SH, S, T)) rfl ?_
                  refine xj_E.b_eq (fun q => ?_) (fun q => ?_)
                  · have hd := hd.1 q
                    have h := fun v S9 e => h v S9 (Eq.trans e (if_pos q).symm); have ht := fun q_ v S9 e => ht q_ v S9 (Eq.trans e (if_pos q).symm)
                    exact xj_E.thr rfl rfl rfl rfl rfl (ht 1 _ _ rfl)
                  · have hd := hd.2 q
                    have h := fun v S9 e => h v S9 (Eq.trans e (if_neg q).symm); have ht := fun q_ v S9 e => ht q_ v S9 (Eq.trans e (if_neg q).symm)
                    refine xj_E.adv 7 (pc' := 102) (ls' := [(4, .int 1), (0, .ref 0), (1, .int a), (2, .int b), (3, .int c)]) (st' := [.int c, .int b, .int a, .ref 1]) (w' := (SH, S, T)) rfl ?_
                    refine xj_E.calli (d := D1) (S := SH) rfl rfl rfl rfl rfl (ok_p_addItem (by omega) hd.1 ?_)
                    intro v2 S2 e2
                    refine ⟨_, _, _, rfl, rfl, rfl, rfl, ?_⟩
                    have hd := hd.2
                    rw [← e2] at hd h ht
                    exact xj_E.ret rfl rfl rfl rfl (h _ _ rfl)
    · have hd := hd.2 q
      have h := fun v S9 e => h v S9 (Eq.trans e (if_neg q).symm); have ht := fun q_ v S9 e => ht q_ v S9 (Eq.trans e (if_neg q).symm)
      exact xj_E.thr rfl rfl rfl rfl rfl (ht 0 _ _ rfl)
set_option maxHeartbeats 4000000 in
set_option maxRecDepth 100000 in
theorem ok_c_sentry {L : Nat} {xs : Nat → Int32} {T : Nat → Nat → Int64} {D : Nat} {S : (Nat → Nat → Int32)} {P : (Option Value ⊕ Nat) → xj_W → Nat → Nat → Prop} {a b : Int32} (hD : 2 ≤ D) (hd : d_c_sentry a b S) (h : ∀ v S9, (0, v, S9) = f_c_sentry a b S → P (.inl (some (.int v))) (SH, S9, T) 0 0) (ht : ∀ q v S9, (q + 1, v, S9) = f_c_sentry a b S → P (.inr q) (SH, S9, T) 1 6) : xj_E (xX L xs) D 29 0 [(0, .ref 0), (1, .int a), (2, .int b)] [] (SH, S, T) P := by
  unfold d_c_sentry at hd
  unfold f_c_sentry at h
  obtain ⟨D1, rfl⟩ : ∃ D1, D = D1 + 1 := ⟨D - 1, by omega⟩
  refine xj_E.adv 2 (pc' := 4) (ls' := [(0, .ref 0), (1, .int a), (2, .int b)]) (st' := [.ref 14]) (w' := (SH, S, T)) rfl ?_
  refine xj_E.calli (d := D1) (S := SH) rfl rfl rfl rfl rfl (xj_E.deep (ok_l_hasBegun (d := 0) hd.1 ?_) (by omega))
  intro v e
  subst e
  refine ⟨_, _, _, rfl, rfl, rfl, rfl, ?_⟩
  have hd := hd.2
  refine xj_E.adv 1 (pc' := (if xj_cmp .ne (r_l_hasBegun S) 0 = true then 22 else 10)) (ls' := [(0, .ref 0), (1, .int a), (2, .int b)]) (st' := []) (w' := (SH, S, T)) rfl ?_
  refine xj_E.b_ne (fun q => ?_) (fun q => ?_)
  · have hd := hd.1 q
    have h := fun v S9 e => h v S9 (Eq.trans e (if_pos q).symm); have ht := fun q_ v S9 e => ht q_ v S9 (Eq.trans e (if_pos q).symm)
    exact xj_E.thr rfl rfl rfl rfl rfl (ht 0 _ _ rfl)
  · have hd := hd.2 q
    have h := fun v S9 e => h v S9 (Eq.trans e (if_neg q).symm); have ht := fun q_ v S9 e => ht q_ v S9 (Eq.trans e (if_neg q).symm)
    refine xj_E.adv 5 (pc' := (if xj_cmp .ne (S 1 5) 16 = true then 32 else 22)) (ls' := [(0, .ref 0), (1, .int a), (2, .int b)]) (st' := []) (w' := (SH, S, T)) rfl ?_
    refine xj_E.b_ne (fun q => ?_) (fun q => ?_)
    · have hd := hd.1 q
      have h := fun v S9 e => h v S9 (Eq.trans e (if_pos q).symm); have ht := fun q_ v S9 e => ht q_ v S9 (Eq.trans e (if_pos q).symm)
      refine xj_E.adv 4 (pc' := 38) (ls' := [(0, .ref 0), (1, .int a), (2, .int b)]) (st' := [.int b, .int a, .ref 1]) (w' := (SH, S, T)) rfl ?_
      refine xj_E.calli (d := D1) (S := SH) rfl rfl rfl rfl rfl (xj_E.deep (ok_p_mayHaveSentry (d := 0) hd.1 ?_) (by omega))
      intro v e
      subst e
      refine ⟨_, _, _, rfl, rfl, rfl, rfl, ?_⟩
      have hd := hd.2
      refine xj_E.adv 1 (pc' := (if xj_cmp .ne (r_p_mayHaveSentry S a b) 0 = true then 54 else 44)) (ls' := [(0, .ref 0), (1, .int a), (2, .int b)]) (st' := []) (w' := (SH, S, T)) rfl ?_
      refine xj_E.b_ne (fun q => ?_) (fun q => ?_)
      · have hd := hd.1 q
        have h := fun v S9 e => h v S9 (Eq.trans e (if_pos q).symm); have ht := fun q_ v S9 e => ht q_ v S9 (Eq.trans e (if_pos q).symm)
        refine xj_E.adv 4 (pc' := 60) (ls' := [(0, .ref 0), (1, .int a), (2, .int b)]) (st' := [.int b, .int a, .ref 1]) (w' := (SH, S, T)) rfl ?_
        refine xj_E.calli (d := D1) (S := SH) rfl rfl rfl rfl rfl (ok_p_addSentry (by omega) hd.1 ?_)
        intro v1 S1 e1
        refine ⟨_, _, _, rfl, rfl, rfl, rfl, ?_⟩
        have hd := hd.2
        rw [← e1] at hd h ht
        exact xj_E.ret rfl rfl rfl rfl (h _ _ rfl)
      · have hd := hd.2 q
        have h := fun v S9 e => h v S9 (Eq.trans e (if_neg q).symm); have ht := fun q_ v S9 e => ht q_ v S9 (Eq.trans e (if_neg q).symm)
        exact xj_E.thr rfl rfl rfl rfl rfl (ht 1 _ _ rfl)
    · have hd := hd.2 q
      have h := fun v S9 e => h v S9 (Eq.trans e (if_neg q).symm); have ht := fun q_ v S9 e => ht q_ v S9 (Eq.trans e (if_neg q).symm)
      exact xj_E.thr rfl rfl rfl rfl rfl (ht 0 _ _ rfl)
set_option maxHeartbeats 4000000 in
set_option maxRecDepth 100000 in
theorem ok_c_on {L : Nat} {xs : Nat → Int32} {T : Nat → Nat → Int64} {D : Nat} {S : (Nat → Nat → Int32)} {P : (Option Value ⊕ Nat) → xj_W → Nat → Nat → Prop} {a b c : Int32} (hD : 2 ≤ D) (hd : d_c_on a b c S) (h : ∀ v S9, (0, v, S9) = f_c_on a b c S → P (.inl (some (.int v))) (SH, S9, T) 0 0) (ht : ∀ q v S9, (q + 1, v, S9) = f_c_on a b c S → P (.inr q) (SH, S9, T) 1 6) : xj_E (xX L xs) D 30 0 [(0, .ref 0), (1, .int a), (2, .int b), (3, .int c)] [] (SH, S, T) P := by
  unfold d_c_on at hd
  unfold f_c_on at h
  obtain ⟨D1, rfl⟩ : ∃ D1, D = D1 + 1 := ⟨D - 1, by omega⟩
  refine xj_E.adv 2 (pc' := 4) (ls' := [(0, .ref 0), (1, .int a), (2, .int b), (3, .int c)]) (st' := [.ref 14]) (w' := (SH, S, T)) rfl ?_
  refine xj_E.calli (d := D1) (S := SH) rfl rfl rfl rfl rfl (xj_E.deep (ok_l_hasBegun (d := 0) hd.1 ?_) (by omega))
  intro v e
  subst e
  refine ⟨_, _, _, rfl, rfl, rfl, rfl, ?_⟩
  have hd := hd.2
  refine xj_E.adv 1 (pc' := (if xj_cmp .ne (r_l_hasBegun S) 0 = true then 21 else 10)) (ls' := [(0, .ref 0), (1, .int a), (2, .int b), (3, .int c)]) (st' := []) (w' := (SH, S, T)) rfl ?_
  refine xj_E.b_ne (fun q => ?_) (fun q => ?_)
  · have hd := hd.1 q
    have h := fun v S9 e => h v S9 (Eq.trans e (if_pos q).symm); have ht := fun q_ v S9 e => ht q_ v S9 (Eq.trans e (if_pos q).symm)
    exact xj_E.thr rfl rfl rfl rfl rfl (ht 0 _ _ rfl)
  · have hd := hd.2 q
    have h := fun v S9 e => h v S9 (Eq.trans e (if_neg q).symm); have ht := fun q_ v S9 e => ht q_ v S9 (Eq.trans e (if_neg q).symm)
    refine xj_E.adv 3 (pc' := 15) (ls' := [(0, .ref 0), (1, .int a), (2, .int b), (3, .int c)]) (st' := [.int a, .ref 1]) (w' := (SH, S, T)) rfl ?_
    refine xj_E.calli (d := D1) (S := SH) rfl rfl rfl rfl rfl (xj_E.deep (ok_p_hasAllParts (d := 0) hd.1 ?_) (by omega))
    intro v e
    subst e
    refine ⟨_, _, _, rfl, rfl, rfl, rfl, ?_⟩
    have hd := hd.2
    refine xj_E.adv 1 (pc' := (if xj_cmp .eq (r_p_hasAllParts S a) 0 = true then 31 else 21)) (ls' := [(0, .ref 0), (1, .int a), (2, .int b), (3, .int c)]) (st' := []) (w' := (SH, S, T)) rfl ?_
    refine xj_E.b_eq (fun q => ?_) (fun q => ?_)
    · have hd := hd.1 q
      have h := fun v S9 e => h v S9 (Eq.trans e (if_pos q).symm); have ht := fun q_ v S9 e => ht q_ v S9 (Eq.trans e (if_pos q).symm)
      refine xj_E.adv 3 (pc' := 36) (ls' := [(0, .ref 0), (1, .int a), (2, .int b), (3, .int c)]) (st' := [.int a, .ref 1]) (w' := (SH, S, T)) rfl ?_
      refine xj_E.calli (d := D1) (S := SH) rfl rfl rfl rfl rfl (xj_E.deep (ok_p_hasSentry (d := 0) hd.1 ?_) (by omega))
      intro v e
      subst e
      refine ⟨_, _, _, rfl, rfl, rfl, rfl, ?_⟩
      have hd := hd.2
      refine xj_E.adv 1 (pc' := (if xj_cmp .eq (r_p_hasSentry S a) 0 = true then 55 else 42)) (ls' := [(0, .ref 0), (1, .int a), (2, .int b), (3, .int c)]) (st' := []) (w' := (SH, S, T)) rfl ?_
      refine xj_E.b_eq (fun q => ?_) (fun q => ?_)
      · have hd := hd.1 q
        have h := fun v S9 e => h v S9 (Eq.trans e (if_pos q).symm); have ht := fun q_ v S9 e => ht q_ v S9 (Eq.trans e (if_pos q).symm)
        exact xj_E.thr rfl rfl rfl rfl rfl (ht 1 _ _ rfl)
      · have hd := hd.2 q
        have h := fun v S9 e => h v S9 (Eq.trans e (if_neg q).symm); have ht := fun q_ v S9 e => ht q_ v S9 (Eq.trans e (if_neg q).symm)
        refine xj_E.adv 5 (pc' := 49) (ls' := [(0, .ref 0), (1, .int a), (2, .int b), (3, .int c)]) (st' := [.int c, .int b, .int a, .ref 1]) (w' := (SH, S, T)) rfl ?_
        refine xj_E.calli (d := D1) (S := SH) rfl rfl rfl rfl rfl (xj_E.deep (ok_p_mayHear (d := 0) hd.1 ?_) (by omega))
        intro v e
        subst e
        refine ⟨_, _, _, rfl, rfl, rfl, rfl, ?_⟩
        have hd := hd.2
        refine xj_E.adv 1 (pc' := (if xj_cmp .ne (r_p_mayHear S a b c) 0 = true then 65 else 55)) (ls' := [(0, .ref 0), (1, .int a), (2, .int b), (3, .int c)]) (st' := []) (w' := (SH, S, T)) rfl ?_
        refine xj_E.b_ne (fun q => ?_) (fun q => ?_)
        · have hd := hd.1 q
          have h := fun v S9 e => h v S9 (Eq.trans e (if_pos q).symm); have ht := fun q_ v S9 e => ht q_ v S9 (Eq.trans e (if_pos q).symm)
          refine xj_E.adv 5 (pc' := 72) (ls' := [(0, .ref 0), (1, .int a), (2, .int b), (3, .int c)]) (st' := [.int c, .int b, .int a, .ref 1]) (w' := (SH, S, T)) rfl ?_
          refine xj_E.calli (d := D1) (S := SH) rfl rfl rfl rfl rfl (ok_p_addPart (by omega) hd.1 ?_)
          intro v1 S1 e1
          refine ⟨_, _, _, rfl, rfl, rfl, rfl, ?_⟩
          have hd := hd.2
          rw [← e1] at hd h ht
          exact xj_E.ret rfl rfl rfl rfl (h _ _ rfl)
        · have hd := hd.2 q
          have h := fun v S9 e => h v S9 (Eq.trans e (if_neg q).symm); have ht := fun q_ v S9 e => ht q_ v S9 (Eq.trans e (if_neg q).symm)
          exact xj_E.thr rfl rfl rfl rfl rfl (ht 1 _ _ rfl)
    · have hd := hd.2 q
      have h := fun v S9 e => h v S9 (Eq.trans e (if_neg q).symm); have ht := fun q_ v S9 e => ht q_ v S9 (Eq.trans e (if_neg q).symm)
      exact xj_E.thr rfl rfl rfl rfl rfl (ht 0 _ _ rfl)
set_option maxHeartbeats 4000000 in
set_option maxRecDepth 100000 in
theorem ok_c_when {L : Nat} {xs : Nat → Int32} {T : Nat → Nat → Int64} {D : Nat} {S : (Nat → Nat → Int32)} {P : (Option Value ⊕ Nat) → xj_W → Nat → Nat → Prop} {a b c d : Int32} (hD : 1 ≤ D) (hd : d_c_when a b c d S) (h : ∀ v S9, (0, v, S9) = f_c_when a b c d S → P (.inl none) (SH, S9, T) 0 0) (ht : ∀ q v S9, (q + 1, v, S9) = f_c_when a b c d S → P (.inr q) (SH, S9, T) 1 6) : xj_E (xX L xs) D 31 0 [(0, .ref 0), (1, .int a), (2, .int b), (3, .int c), (4, .int d)] [] (SH, S, T) P := by
  unfold d_c_when at hd
  unfold f_c_when at h
  obtain ⟨D1, rfl⟩ : ∃ D1, D = D1 + 1 := ⟨D - 1, by omega⟩
  refine xj_E.adv 2 (pc' := 4) (ls' := [(0, .ref 0), (1, .int a), (2, .int b), (3, .int c), (4, .int d)]) (st' := [.ref 14]) (w' := (SH, S, T)) rfl ?_
  refine xj_E.calli (d := D1) (S := SH) rfl rfl rfl rfl rfl (xj_E.deep (ok_l_hasBegun (d := 0) hd.1 ?_) (by omega))
  intro v e
  subst e
  refine ⟨_, _, _, rfl, rfl, rfl, rfl, ?_⟩
  have hd := hd.2
  refine xj_E.adv 1 (pc' := (if xj_cmp .eq (r_l_hasBegun S) 0 = true then 20 else 10)) (ls' := [(0, .ref 0), (1, .int a), (2, .int b), (3, .int c), (4, .int d)]) (st' := []) (w' := (SH, S, T)) rfl ?_
  refine xj_E.b_eq (fun q => ?_) (fun q => ?_)
  · have hd := hd.1 q
    have h := fun v S9 e => h v S9 (Eq.trans e (if_pos q).symm); have ht := fun q_ v S9 e => ht q_ v S9 (Eq.trans e (if_pos q).symm)
    refine xj_E.adv 3 (pc' := 25) (ls' := [(0, .ref 0), (1, .int a), (2, .int b), (3, .int c), (4, .int d)]) (st' := [.int a, .ref 1]) (w' := (SH, S, T)) rfl ?_
    refine xj_E.calli (d := D1) (S := SH) rfl rfl rfl rfl rfl (xj_E.deep (ok_p_hasSentry (d := 0) hd.1 ?_) (by omega))
    intro v e
    subst e
    refine ⟨_, _, _, rfl, rfl, rfl, rfl, ?_⟩
    have hd := hd.2
    refine xj_E.adv 1 (pc' := (if xj_cmp .eq (r_p_hasSentry S a) 0 = true then 47 else 31)) (ls' := [(0, .ref 0), (1, .int a), (2, .int b), (3, .int c), (4, .int d)]) (st' := []) (w' := (SH, S, T)) rfl ?_
    refine xj_E.b_eq (fun q => ?_) (fun q => ?_)
    · have hd := hd.1 q
      have h := fun v S9 e => h v S9 (Eq.trans e (if_pos q).symm); have ht := fun q_ v S9 e => ht q_ v S9 (Eq.trans e (if_pos q).symm)
      exact xj_E.thr rfl rfl rfl rfl rfl (ht 1 _ _ rfl)
    · have hd := hd.2 q
      have h := fun v S9 e => h v S9 (Eq.trans e (if_neg q).symm); have ht := fun q_ v S9 e => ht q_ v S9 (Eq.trans e (if_neg q).symm)
      refine xj_E.adv 1 (pc' := 32) (ls' := [(0, .ref 0), (1, .int a), (2, .int b), (3, .int c), (4, .int d)]) (st' := [.int b]) (w' := (SH, S, T)) rfl ?_
      refine xj_E.calli (d := D1) (S := SH) rfl rfl rfl rfl rfl (xj_E.deep (ok_c_isVariable (d := 0) hd.1 ?_) (by omega))
      intro v e
      subst e
      refine ⟨_, _, _, rfl, rfl, rfl, rfl, ?_⟩
      have hd := hd.2
      refine xj_E.adv 1 (pc' := (if xj_cmp .eq (r_c_isVariable S b) 0 = true then 47 else 38)) (ls' := [(0, .ref 0), (1, .int a), (2, .int b), (3, .int c), (4, .int d)]) (st' := []) (w' := (SH, S, T)) rfl ?_
      refine xj_E.b_eq (fun q => ?_) (fun q => ?_)
      · have hd := hd.1 q
        have h := fun v S9 e => h v S9 (Eq.trans e (if_pos q).symm); have ht := fun q_ v S9 e => ht q_ v S9 (Eq.trans e (if_pos q).symm)
        exact xj_E.thr rfl rfl rfl rfl rfl (ht 1 _ _ rfl)
      · have hd := hd.2 q
        have h := fun v S9 e => h v S9 (Eq.trans e (if_neg q).symm); have ht := fun q_ v S9 e => ht q_ v S9 (Eq.trans e (if_neg q).symm)
        refine xj_E.adv 2 (pc' := (if xj_cmp .lt c 0 = true then 47 else 42)) (ls' := [(0, .ref 0), (1, .int a), (2, .int b), (3, .int c), (4, .int d)]) (st' := []) (w' := (SH, S, T)) rfl ?_
        refine xj_E.b_lt (fun q => ?_) (fun q => ?_)
        · have hd := hd.1 q
          have h := fun v S9 e => h v S9 (Eq.trans e (if_pos q).symm); have ht := fun q_ v S9 e => ht q_ v S9 (Eq.trans e (if_pos q).symm)
          exact xj_E.thr rfl rfl rfl rfl rfl (ht 1 _ _ rfl)
        · have hd := hd.2 q
          have h := fun v S9 e => h v S9 (Eq.trans e (if_neg q).symm); have ht := fun q_ v S9 e => ht q_ v S9 (Eq.trans e (if_neg q).symm)
          refine xj_E.adv 3 (pc' := (if xj_cmp .le c 2 = true then 57 else 47)) (ls' := [(0, .ref 0), (1, .int a), (2, .int b), (3, .int c), (4, .int d)]) (st' := []) (w' := (SH, S, T)) rfl ?_
          refine xj_E.b_le (fun q => ?_) (fun q => ?_)
          · have hd := hd.1 q
            have h := fun v S9 e => h v S9 (Eq.trans e (if_pos q).symm); have ht := fun q_ v S9 e => ht q_ v S9 (Eq.trans e (if_pos q).symm)
            refine xj_E.adv 6 (pc' := 66) (ls' := [(0, .ref 0), (1, .int a), (2, .int b), (3, .int c), (4, .int d)]) (st' := [.int d, .int c, .int b, .int a, .ref 1]) (w' := (SH, S, T)) rfl ?_
            refine xj_E.callv (d := D1) (S := SH) rfl rfl rfl rfl rfl (ok_p_putIfPart (by omega) hd.1 ?_)
            intro v1 S1 e1
            refine ⟨_, _, rfl, rfl, rfl, rfl, ?_⟩
            have hd := hd.2
            rw [← e1] at hd h ht
            exact xj_E.ret rfl rfl rfl rfl (h _ _ rfl)
          · have hd := hd.2 q
            have h := fun v S9 e => h v S9 (Eq.trans e (if_neg q).symm); have ht := fun q_ v S9 e => ht q_ v S9 (Eq.trans e (if_neg q).symm)
            exact xj_E.thr rfl rfl rfl rfl rfl (ht 1 _ _ rfl)
  · have hd := hd.2 q
    have h := fun v S9 e => h v S9 (Eq.trans e (if_neg q).symm); have ht := fun q_ v S9 e => ht q_ v S9 (Eq.trans e (if_neg q).symm)
    exact xj_E.thr rfl rfl rfl rfl rfl (ht 0 _ _ rfl)
set_option maxHeartbeats 4000000 in
set_option maxRecDepth 100000 in
theorem okk_c_workOff {L : Nat} {xs : Nat → Int32} {T : Nat → Nat → Int64} (n : Nat) : (∀ (u1 : Int32) S D (P : (Option Value ⊕ Nat) → xj_W → Nat → Nat → Prop), 605 ≤ D → dk_c_workOff n u1 S → (∀ v S9, (0, v, S9) = fk_c_workOff n u1 S → P (.inl (some (.int v))) (SH, S9, T) 0 0) → (∀ q v S9, (q + 1, v, S9) = fk_c_workOff n u1 S → P (.inr q) (SH, S9, T) 1 6) → xj_E (xX L xs) D 48 2 [(0, .ref 0), (1, .int u1)] [] (SH, S, T) P) := by
  induction n with
  | zero => exact fun _ _ _ _ _ hd _ _ => hd.elim
  | succ n ih =>
    refine ?_
    · intro u1 S D P hD hd h ht
      obtain ⟨D1, rfl⟩ : ∃ D1, D = D1 + 1 := ⟨D - 1, by omega⟩
      refine xj_E.adv 3 (pc' := (if xj_cmp .gt u1 60 = true then 85 else 8)) (ls' := [(0, .ref 0), (1, .int u1)]) (st' := []) (w' := (SH, S, T)) rfl ?_
      refine xj_E.b_gt (fun q => ?_) (fun q => ?_)
      · have hd := hd.1 q
        have h := fun v S9 e => h v S9 (Eq.trans e (if_pos q).symm); have ht := fun q_ v S9 e => ht q_ v S9 (Eq.trans e (if_pos q).symm)
        refine xj_E.adv 4 (pc' := 93) (ls' := [(0, .ref 0), (1, .int u1)]) (st' := [.ref 23, .ref 14]) (w' := (SH, S, T)) rfl ?_
        refine xj_E.callv (d := D1) (S := SH) rfl rfl rfl rfl rfl (ok_l_copyFrom14 (by omega) hd.1 ?_)
        intro v1 S1 e1
        refine ⟨_, _, rfl, rfl, rfl, rfl, ?_⟩
        have hd := hd.2
        rw [← e1] at hd h ht
        exact xj_E.thr rfl rfl rfl rfl rfl (ht 2 _ _ rfl)
      · have hd := hd.2 q
        have h := fun v S9 e => h v S9 (Eq.trans e (if_neg q).symm); have ht := fun q_ v S9 e => ht q_ v S9 (Eq.trans e (if_neg q).symm)
        refine xj_E.adv 3 (pc' := (if xj_cmp .ne (S 0 4) 0 = true then 85 else 15)) (ls' := [(0, .ref 0), (1, .int u1)]) (st' := []) (w' := (SH, S, T)) rfl ?_
        refine xj_E.b_ne (fun q => ?_) (fun q => ?_)
        · have hd := hd.1 q
          have h := fun v S9 e => h v S9 (Eq.trans e (if_pos q).symm); have ht := fun q_ v S9 e => ht q_ v S9 (Eq.trans e (if_pos q).symm)
          refine xj_E.adv 4 (pc' := 93) (ls' := [(0, .ref 0), (1, .int u1)]) (st' := [.ref 23, .ref 14]) (w' := (SH, S, T)) rfl ?_
          refine xj_E.callv (d := D1) (S := SH) rfl rfl rfl rfl rfl (ok_l_copyFrom14 (by omega) hd.1 ?_)
          intro v2 S2 e2
          refine ⟨_, _, rfl, rfl, rfl, rfl, ?_⟩
          have hd := hd.2
          rw [← e2] at hd h ht
          exact xj_E.thr rfl rfl rfl rfl rfl (ht 2 _ _ rfl)
        · have hd := hd.2 q
          have h := fun v S9 e => h v S9 (Eq.trans e (if_neg q).symm); have ht := fun q_ v S9 e => ht q_ v S9 (Eq.trans e (if_neg q).symm)
          refine xj_E.adv 1 (pc' := 16) (ls' := [(0, .ref 0), (1, .int u1)]) (st' := [.ref 0]) (w' := (SH, S, T)) rfl ?_
          refine xj_E.calli (d := D1) (S := SH) rfl rfl rfl rfl rfl (xj_E.deep (ok_c_lowestToExit (d := 0) hd.1 ?_) (by omega))
          intro v e
          subst e
          refine ⟨_, _, _, rfl, rfl, rfl, rfl, ?_⟩
          have hd := hd.2
          refine xj_E.adv 4 (pc' := (if xj_cmp .eq (r_c_lowestToExit S) (-1) = true then 36 else 25)) (ls' := [(2, .int (r_c_lowestToExit S)), (0, .ref 0), (1, .int u1)]) (st' := []) (w' := (SH, S, T)) rfl ?_
          refine xj_E.b_eq (fun q => ?_) (fun q => ?_)
          · have hd := hd.1 q
            have h := fun v S9 e => h v S9 (Eq.trans e (if_pos q).symm); have ht := fun q_ v S9 e => ht q_ v S9 (Eq.trans e (if_pos q).symm)
            refine xj_E.adv 1 (pc' := 37) (ls' := [(2, .int (r_c_lowestToExit S)), (0, .ref 0), (1, .int u1)]) (st' := [.ref 0]) (w' := (SH, S, T)) rfl ?_
            refine xj_E.calli (d := D1) (S := SH) rfl rfl rfl rfl rfl (xj_E.deep (ok_c_lowestToEnter (d := 0) hd.1 ?_) (by omega))
            intro v e
            subst e
            refine ⟨_, _, _, rfl, rfl, rfl, rfl, ?_⟩
            have hd := hd.2
            refine xj_E.adv 4 (pc' := (if xj_cmp .eq (r_c_lowestToEnter S) (-1) = true then 54 else 46)) (ls' := [(3, .int (r_c_lowestToEnter S)), (2, .int (r_c_lowestToExit S)), (0, .ref 0), (1, .int u1)]) (st' := []) (w' := (SH, S, T)) rfl ?_
            refine xj_E.b_eq (fun q => ?_) (fun q => ?_)
            · have hd := hd.1 q
              have h := fun v S9 e => h v S9 (Eq.trans e (if_pos q).symm); have ht := fun q_ v S9 e => ht q_ v S9 (Eq.trans e (if_pos q).symm)
              refine xj_E.adv 1 (pc' := 55) (ls' := [(3, .int (r_c_lowestToEnter S)), (2, .int (r_c_lowestToExit S)), (0, .ref 0), (1, .int u1)]) (st' := [.ref 0]) (w' := (SH, S, T)) rfl ?_
              refine xj_E.calli (d := D1) (S := SH) rfl rfl rfl rfl rfl (xj_E.deep (ok_c_lowestToComplete (d := 0) hd.1 ?_) (by omega))
              intro v e
              subst e
              refine ⟨_, _, _, rfl, rfl, rfl, rfl, ?_⟩
              have hd := hd.2
              refine xj_E.adv 4 (pc' := (if xj_cmp .ne (r_c_lowestToComplete S) (-1) = true then 71 else 66)) (ls' := [(4, .int (r_c_lowestToComplete S)), (3, .int (r_c_lowestToEnter S)), (2, .int (r_c_lowestToExit S)), (0, .ref 0), (1, .int u1)]) (st' := []) (w' := (SH, S, T)) rfl ?_
              refine xj_E.b_ne (fun q => ?_) (fun q => ?_)
              · have hd := hd.1 q
                have h := fun v S9 e => h v S9 (Eq.trans e (if_pos q).symm); have ht := fun q_ v S9 e => ht q_ v S9 (Eq.trans e (if_pos q).symm)
                refine xj_E.adv 4 (pc' := 76) (ls' := [(4, .int (r_c_lowestToComplete S)), (3, .int (r_c_lowestToEnter S)), (2, .int (r_c_lowestToExit S)), (0, .ref 0), (1, .int u1)]) (st' := [.int 0, .int 4, .int (r_c_lowestToComplete S), .ref 0]) (w' := (SH, S, T)) rfl ?_
                refine xj_E.callv (d := D1) (S := SH) rfl rfl rfl rfl rfl (ok_c_make (by omega) hd.1 ?_)
                intro v3 S3 e3
                refine ⟨_, _, rfl, rfl, rfl, rfl, ?_⟩
                have hd := hd.2
                rw [← e3] at hd h ht
                refine xj_E.adv 2 (pc' := 2) (ls' := [(1, .int (u1 + 1)), (4, .int (r_c_lowestToComplete S)), (3, .int (r_c_lowestToEnter S)), (2, .int (r_c_lowestToExit S)), (0, .ref 0)]) (st' := []) (w' := (SH, S3, T)) rfl ?_
                refine xj_E.loc [0, 1] xhth rfl (show xj_E (xX L xs) (D1 + 1) 48 2 [(0, .ref 0), (1, .int (u1 + 1))] [] (SH, S3, T) P from ?_)
                exact (ih) _ _ _ _ (by omega) hd h ht
              · have hd := hd.2 q
                have h := fun v S9 e => h v S9 (Eq.trans e (if_neg q).symm); have ht := fun q_ v S9 e => ht q_ v S9 (Eq.trans e (if_neg q).symm)
                refine xj_E.adv 2 (pc' := 70) (ls' := [(4, .int (r_c_lowestToComplete S)), (3, .int (r_c_lowestToEnter S)), (2, .int (r_c_lowestToExit S)), (0, .ref 0), (1, .int u1)]) (st' := [.int (S 0 3)]) (w' := (SH, S, T)) rfl ?_
                exact xj_E.ret rfl rfl rfl rfl (h _ _ rfl)
            · have hd := hd.2 q
              have h := fun v S9 e => h v S9 (Eq.trans e (if_neg q).symm); have ht := fun q_ v S9 e => ht q_ v S9 (Eq.trans e (if_neg q).symm)
              refine xj_E.adv 2 (pc' := 48) (ls' := [(3, .int (r_c_lowestToEnter S)), (2, .int (r_c_lowestToExit S)), (0, .ref 0), (1, .int u1)]) (st' := [.int (r_c_lowestToEnter S), .ref 0]) (w' := (SH, S, T)) rfl ?_
              refine xj_E.callv (d := D1) (S := SH) rfl rfl rfl rfl rfl (ok_c_letIn (by omega) hd.1 ?_)
              intro v4 S4 e4
              refine ⟨_, _, rfl, rfl, rfl, rfl, ?_⟩
              have hd := hd.2
              rw [← e4] at hd h ht
              refine xj_E.adv 3 (pc' := 2) (ls' := [(1, .int (u1 + 1)), (3, .int (r_c_lowestToEnter S)), (2, .int (r_c_lowestToExit S)), (0, .ref 0)]) (st' := []) (w' := (SH, S4, T)) rfl ?_
              refine xj_E.loc [0, 1] xhth rfl (show xj_E (xX L xs) (D1 + 1) 48 2 [(0, .ref 0), (1, .int (u1 + 1))] [] (SH, S4, T) P from ?_)
              exact (ih) _ _ _ _ (by omega) hd h ht
          · have hd := hd.2 q
            have h := fun v S9 e => h v S9 (Eq.trans e (if_neg q).symm); have ht := fun q_ v S9 e => ht q_ v S9 (Eq.trans e (if_neg q).symm)
            refine xj_E.adv 4 (pc' := 30) (ls' := [(2, .int (r_c_lowestToExit S)), (0, .ref 0), (1, .int u1)]) (st' := [.int 0, .int 9, .int (r_c_lowestToExit S), .ref 0]) (w' := (SH, S, T)) rfl ?_
            refine xj_E.callv (d := D1) (S := SH) rfl rfl rfl rfl rfl (ok_c_make (by omega) hd.1 ?_)
            intro v5 S5 e5
            refine ⟨_, _, rfl, rfl, rfl, rfl, ?_⟩
            have hd := hd.2
            rw [← e5] at hd h ht
            refine xj_E.adv 3 (pc' := 2) (ls' := [(1, .int (u1 + 1)), (2, .int (r_c_lowestToExit S)), (0, .ref 0)]) (st' := []) (w' := (SH, S5, T)) rfl ?_
            refine xj_E.loc [0, 1] xhth rfl (show xj_E (xX L xs) (D1 + 1) 48 2 [(0, .ref 0), (1, .int (u1 + 1))] [] (SH, S5, T) P from ?_)
            exact (ih) _ _ _ _ (by omega) hd h ht
set_option maxHeartbeats 4000000 in
set_option maxRecDepth 100000 in
theorem ok_c_workOff {L : Nat} {xs : Nat → Int32} {T : Nat → Nat → Int64} {D : Nat} {S : (Nat → Nat → Int32)} {P : (Option Value ⊕ Nat) → xj_W → Nat → Nat → Prop} (hD : 605 ≤ D) (hd : d_c_workOff  S) (h : ∀ v S9, (0, v, S9) = f_c_workOff  S → P (.inl (some (.int v))) (SH, S9, T) 0 0) (ht : ∀ q v S9, (q + 1, v, S9) = f_c_workOff  S → P (.inr q) (SH, S9, T) 1 6) : xj_E (xX L xs) D 48 0 [(0, .ref 0)] [] (SH, S, T) P := by
  unfold d_c_workOff at hd
  unfold f_c_workOff at h
  refine xj_E.adv 2 (pc' := 2) (ls' := [(1, .int 0), (0, .ref 0)]) (st' := []) (w' := (SH, S, T)) rfl ?_
  refine xj_E.loc [0, 1] xhth rfl (show xj_E (xX L xs) D 48 2 [(0, .ref 0), (1, .int 0)] [] (SH, S, T) P from ?_)
  exact ((okk_c_workOff 200)) _ _ _ _ (by omega) hd h ht
set_option maxHeartbeats 4000000 in
set_option maxRecDepth 100000 in
theorem ok_c_begin {L : Nat} {xs : Nat → Int32} {T : Nat → Nat → Int64} {D : Nat} {S : (Nat → Nat → Int32)} {P : (Option Value ⊕ Nat) → xj_W → Nat → Nat → Prop} {a : Int32} (hD : 606 ≤ D) (hd : d_c_begin a S) (h : ∀ v S9, (0, v, S9) = f_c_begin a S → P (.inl (some (.int v))) (SH, S9, T) 0 0) (ht : ∀ q v S9, (q + 1, v, S9) = f_c_begin a S → P (.inr q) (SH, S9, T) 1 6) : xj_E (xX L xs) D 32 0 [(0, .ref 0), (1, .int a)] [] (SH, S, T) P := by
  unfold d_c_begin at hd
  unfold f_c_begin at h
  obtain ⟨D1, rfl⟩ : ∃ D1, D = D1 + 1 := ⟨D - 1, by omega⟩
  refine xj_E.adv 2 (pc' := 4) (ls' := [(0, .ref 0), (1, .int a)]) (st' := [.ref 14]) (w' := (SH, S, T)) rfl ?_
  refine xj_E.calli (d := D1) (S := SH) rfl rfl rfl rfl rfl (xj_E.deep (ok_l_hasBegun (d := 0) hd.1 ?_) (by omega))
  intro v e
  subst e
  refine ⟨_, _, _, rfl, rfl, rfl, rfl, ?_⟩
  have hd := hd.2
  refine xj_E.adv 1 (pc' := (if xj_cmp .eq (r_l_hasBegun S) 0 = true then 20 else 10)) (ls' := [(0, .ref 0), (1, .int a)]) (st' := []) (w' := (SH, S, T)) rfl ?_
  refine xj_E.b_eq (fun q => ?_) (fun q => ?_)
  · have hd := hd.1 q
    have h := fun v S9 e => h v S9 (Eq.trans e (if_pos q).symm); have ht := fun q_ v S9 e => ht q_ v S9 (Eq.trans e (if_pos q).symm)
    refine xj_E.adv 3 (pc' := (if xj_cmp .lt a 2 = true then 31 else 25)) (ls' := [(0, .ref 0), (1, .int a)]) (st' := []) (w' := (SH, S, T)) rfl ?_
    refine xj_E.b_lt (fun q => ?_) (fun q => ?_)
    · have hd := hd.1 q
      have h := fun v S9 e => h v S9 (Eq.trans e (if_pos q).symm); have ht := fun q_ v S9 e => ht q_ v S9 (Eq.trans e (if_pos q).symm)
      exact xj_E.thr rfl rfl rfl rfl rfl (ht 1 _ _ rfl)
    · have hd := hd.2 q
      have h := fun v S9 e => h v S9 (Eq.trans e (if_neg q).symm); have ht := fun q_ v S9 e => ht q_ v S9 (Eq.trans e (if_neg q).symm)
      refine xj_E.adv 3 (pc' := (if xj_cmp .le a 60 = true then 41 else 31)) (ls' := [(0, .ref 0), (1, .int a)]) (st' := []) (w' := (SH, S, T)) rfl ?_
      refine xj_E.b_le (fun q => ?_) (fun q => ?_)
      · have hd := hd.1 q
        have h := fun v S9 e => h v S9 (Eq.trans e (if_pos q).symm); have ht := fun q_ v S9 e => ht q_ v S9 (Eq.trans e (if_pos q).symm)
        refine xj_E.adv 1 (pc' := 42) (ls' := [(0, .ref 0), (1, .int a)]) (st' := [.ref 0]) (w' := (SH, S, T)) rfl ?_
        refine xj_E.callv (d := D1) (S := SH) rfl rfl rfl rfl rfl (ok_c_openCommand (by omega) hd.1 ?_)
        intro v1 S1 e1
        refine ⟨_, _, rfl, rfl, rfl, rfl, ?_⟩
        have hd := hd.2
        rw [← e1] at hd h ht
        refine xj_E.adv 8 (pc' := 57) (ls' := [(0, .ref 0), (1, .int a)]) (st' := [.int 0, .int (-1), .int 0, .ref 0]) (w' := (SH, (xj_set S1 14 0 a), T)) rfl ?_
        refine xj_E.callv (d := D1) (S := SH) rfl rfl rfl rfl rfl (ok_c_create (by omega) hd.1 ?_)
        intro v2 S2 e2
        refine ⟨_, _, rfl, rfl, rfl, rfl, ?_⟩
        have hd := hd.2
        rw [← e2] at hd h ht
        refine xj_E.adv 4 (pc' := 64) (ls' := [(0, .ref 0), (1, .int a)]) (st' := [.int 0, .int 2, .int 0, .ref 0]) (w' := (SH, S2, T)) rfl ?_
        refine xj_E.callv (d := D1) (S := SH) rfl rfl rfl rfl rfl (ok_c_make (by omega) hd.1 ?_)
        intro v3 S3 e3
        refine ⟨_, _, rfl, rfl, rfl, rfl, ?_⟩
        have hd := hd.2
        rw [← e3] at hd h ht
        refine xj_E.adv 1 (pc' := 68) (ls' := [(0, .ref 0), (1, .int a)]) (st' := [.ref 0]) (w' := (SH, S3, T)) rfl ?_
        refine xj_E.callt rfl rfl rfl rfl rfl rfl (fun _ => rfl) (ok_c_workOff (by omega) hd ?_ ?_)
        · intro v S9 e
          exact ⟨rfl, rfl, xj_E.ret rfl rfl rfl rfl (h _ _ e)⟩
        · intro q v S9 e
          exact ht _ _ _ e
      · have hd := hd.2 q
        have h := fun v S9 e => h v S9 (Eq.trans e (if_neg q).symm); have ht := fun q_ v S9 e => ht q_ v S9 (Eq.trans e (if_neg q).symm)
        exact xj_E.thr rfl rfl rfl rfl rfl (ht 1 _ _ rfl)
  · have hd := hd.2 q
    have h := fun v S9 e => h v S9 (Eq.trans e (if_neg q).symm); have ht := fun q_ v S9 e => ht q_ v S9 (Eq.trans e (if_neg q).symm)
    exact xj_E.thr rfl rfl rfl rfl rfl (ht 0 _ _ rfl)
set_option maxHeartbeats 4000000 in
set_option maxRecDepth 100000 in
theorem ok_c_move {L : Nat} {xs : Nat → Int32} {T : Nat → Nat → Int64} {D : Nat} {S : (Nat → Nat → Int32)} {P : (Option Value ⊕ Nat) → xj_W → Nat → Nat → Prop} {a b : Int32} (hD : 606 ≤ D) (hd : d_c_move a b S) (h : ∀ v S9, (0, v, S9) = f_c_move a b S → P (.inl (some (.int v))) (SH, S9, T) 0 0) (ht : ∀ q v S9, (q + 1, v, S9) = f_c_move a b S → P (.inr q) (SH, S9, T) 1 6) : xj_E (xX L xs) D 33 0 [(0, .ref 0), (1, .int a), (2, .int b)] [] (SH, S, T) P := by
  unfold d_c_move at hd
  unfold f_c_move at h
  obtain ⟨D1, rfl⟩ : ∃ D1, D = D1 + 1 := ⟨D - 1, by omega⟩
  refine xj_E.adv 3 (pc' := 5) (ls' := [(0, .ref 0), (1, .int a), (2, .int b)]) (st' := [.int a, .ref 14]) (w' := (SH, S, T)) rfl ?_
  refine xj_E.calli (d := D1) (S := SH) rfl rfl rfl rfl rfl (xj_E.deep (ok_l_has (d := 0) hd.1 ?_) (by omega))
  intro v e
  subst e
  refine ⟨_, _, _, rfl, rfl, rfl, rfl, ?_⟩
  have hd := hd.2
  refine xj_E.adv 1 (pc' := (if xj_cmp .ne (r_l_has S a) 0 = true then 21 else 11)) (ls' := [(0, .ref 0), (1, .int a), (2, .int b)]) (st' := []) (w' := (SH, S, T)) rfl ?_
  refine xj_E.b_ne (fun q => ?_) (fun q => ?_)
  · have hd := hd.1 q
    have h := fun v S9 e => h v S9 (Eq.trans e (if_pos q).symm); have ht := fun q_ v S9 e => ht q_ v S9 (Eq.trans e (if_pos q).symm)
    refine xj_E.adv 1 (pc' := 22) (ls' := [(0, .ref 0), (1, .int a), (2, .int b)]) (st' := [.int b]) (w' := (SH, S, T)) rfl ?_
    refine xj_E.calli (d := D1) (S := SH) rfl rfl rfl rfl rfl (xj_E.deep (ok_c_isCommandMove (d := 0) hd.1 ?_) (by omega))
    intro v e
    subst e
    refine ⟨_, _, _, rfl, rfl, rfl, rfl, ?_⟩
    have hd := hd.2
    refine xj_E.adv 1 (pc' := (if xj_cmp .ne (r_c_isCommandMove S b) 0 = true then 38 else 28)) (ls' := [(0, .ref 0), (1, .int a), (2, .int b)]) (st' := []) (w' := (SH, S, T)) rfl ?_
    refine xj_E.b_ne (fun q => ?_) (fun q => ?_)
    · have hd := hd.1 q
      have h := fun v S9 e => h v S9 (Eq.trans e (if_pos q).symm); have ht := fun q_ v S9 e => ht q_ v S9 (Eq.trans e (if_pos q).symm)
      refine xj_E.adv 3 (pc' := 41) (ls' := [(0, .ref 0), (1, .int a), (2, .int b)]) (st' := [.int b, .int a, .ref 0]) (w' := (SH, S, T)) rfl ?_
      refine xj_E.calli (d := D1) (S := SH) rfl rfl rfl rfl rfl (xj_E.deep (ok_c_mayBeMoved (d := 0) hd.1 ?_) (by omega))
      intro v e
      subst e
      refine ⟨_, _, _, rfl, rfl, rfl, rfl, ?_⟩
      have hd := hd.2
      refine xj_E.adv 1 (pc' := (if xj_cmp .ne (r_c_mayBeMoved S a b) 0 = true then 57 else 47)) (ls' := [(0, .ref 0), (1, .int a), (2, .int b)]) (st' := []) (w' := (SH, S, T)) rfl ?_
      refine xj_E.b_ne (fun q => ?_) (fun q => ?_)
      · have hd := hd.1 q
        have h := fun v S9 e => h v S9 (Eq.trans e (if_pos q).symm); have ht := fun q_ v S9 e => ht q_ v S9 (Eq.trans e (if_pos q).symm)
        refine xj_E.adv 1 (pc' := 58) (ls' := [(0, .ref 0), (1, .int a), (2, .int b)]) (st' := [.ref 0]) (w' := (SH, S, T)) rfl ?_
        refine xj_E.callv (d := D1) (S := SH) rfl rfl rfl rfl rfl (ok_c_openCommand (by omega) hd.1 ?_)
        intro v1 S1 e1
        refine ⟨_, _, rfl, rfl, rfl, rfl, ?_⟩
        have hd := hd.2
        rw [← e1] at hd h ht
        refine xj_E.adv 4 (pc' := 65) (ls' := [(0, .ref 0), (1, .int a), (2, .int b)]) (st' := [.int 0, .int b, .int a, .ref 0]) (w' := (SH, S1, T)) rfl ?_
        refine xj_E.callv (d := D1) (S := SH) rfl rfl rfl rfl rfl (ok_c_make (by omega) hd.1 ?_)
        intro v2 S2 e2
        refine ⟨_, _, rfl, rfl, rfl, rfl, ?_⟩
        have hd := hd.2
        rw [← e2] at hd h ht
        refine xj_E.adv 1 (pc' := 69) (ls' := [(0, .ref 0), (1, .int a), (2, .int b)]) (st' := [.ref 0]) (w' := (SH, S2, T)) rfl ?_
        refine xj_E.callt rfl rfl rfl rfl rfl rfl (fun _ => rfl) (ok_c_workOff (by omega) hd ?_ ?_)
        · intro v S9 e
          exact ⟨rfl, rfl, xj_E.ret rfl rfl rfl rfl (h _ _ e)⟩
        · intro q v S9 e
          exact ht _ _ _ e
      · have hd := hd.2 q
        have h := fun v S9 e => h v S9 (Eq.trans e (if_neg q).symm); have ht := fun q_ v S9 e => ht q_ v S9 (Eq.trans e (if_neg q).symm)
        exact xj_E.thr rfl rfl rfl rfl rfl (ht 0 _ _ rfl)
    · have hd := hd.2 q
      have h := fun v S9 e => h v S9 (Eq.trans e (if_neg q).symm); have ht := fun q_ v S9 e => ht q_ v S9 (Eq.trans e (if_neg q).symm)
      exact xj_E.thr rfl rfl rfl rfl rfl (ht 1 _ _ rfl)
  · have hd := hd.2 q
    have h := fun v S9 e => h v S9 (Eq.trans e (if_neg q).symm); have ht := fun q_ v S9 e => ht q_ v S9 (Eq.trans e (if_neg q).symm)
    exact xj_E.thr rfl rfl rfl rfl rfl (ht 3 _ _ rfl)
set_option maxHeartbeats 4000000 in
set_option maxRecDepth 100000 in
theorem ok_c_set {L : Nat} {xs : Nat → Int32} {T : Nat → Nat → Int64} {D : Nat} {S : (Nat → Nat → Int32)} {P : (Option Value ⊕ Nat) → xj_W → Nat → Nat → Prop} {a b : Int32} (hD : 606 ≤ D) (hd : d_c_set a b S) (h : ∀ v S9, (0, v, S9) = f_c_set a b S → P (.inl (some (.int v))) (SH, S9, T) 0 0) (ht : ∀ q v S9, (q + 1, v, S9) = f_c_set a b S → P (.inr q) (SH, S9, T) 1 6) : xj_E (xX L xs) D 34 0 [(0, .ref 0), (1, .int a), (2, .int b)] [] (SH, S, T) P := by
  unfold d_c_set at hd
  unfold f_c_set at h
  obtain ⟨D1, rfl⟩ : ∃ D1, D = D1 + 1 := ⟨D - 1, by omega⟩
  refine xj_E.adv 1 (pc' := 1) (ls' := [(0, .ref 0), (1, .int a), (2, .int b)]) (st' := [.int a]) (w' := (SH, S, T)) rfl ?_
  refine xj_E.calli (d := D1) (S := SH) rfl rfl rfl rfl rfl (xj_E.deep (ok_c_isVariable (d := 0) hd.1 ?_) (by omega))
  intro v e
  subst e
  refine ⟨_, _, _, rfl, rfl, rfl, rfl, ?_⟩
  have hd := hd.2
  refine xj_E.adv 1 (pc' := (if xj_cmp .ne (r_c_isVariable S a) 0 = true then 17 else 7)) (ls' := [(0, .ref 0), (1, .int a), (2, .int b)]) (st' := []) (w' := (SH, S, T)) rfl ?_
  refine xj_E.b_ne (fun q => ?_) (fun q => ?_)
  · have hd := hd.1 q
    have h := fun v S9 e => h v S9 (Eq.trans e (if_pos q).symm); have ht := fun q_ v S9 e => ht q_ v S9 (Eq.trans e (if_pos q).symm)
    refine xj_E.adv 1 (pc' := 18) (ls' := [(0, .ref 0), (1, .int a), (2, .int b)]) (st' := [.ref 0]) (w' := (SH, S, T)) rfl ?_
    refine xj_E.callv (d := D1) (S := SH) rfl rfl rfl rfl rfl (ok_c_openCommand (by omega) hd.1 ?_)
    intro v1 S1 e1
    refine ⟨_, _, rfl, rfl, rfl, rfl, ?_⟩
    have hd := hd.2
    rw [← e1] at hd h ht
    refine xj_E.adv 4 (pc' := 29) (ls' := [(0, .ref 0), (1, .int a), (2, .int b)]) (st' := [.int a, .ref 20]) (w' := (SH, S1, T)) rfl ?_
    refine xj_E.iald rfl rfl hd.1 ?_
    have hd := hd.2
    refine xj_E.adv 2 (pc' := (if xj_cmp .eq (S1 20 a.toNatClampNeg) b = true then 60 else 34)) (ls' := [(0, .ref 0), (1, .int a), (2, .int b)]) (st' := []) (w' := (SH, S1, T)) rfl ?_
    refine xj_E.b_eq (fun q => ?_) (fun q => ?_)
    · have hd := hd.1 q
      have h := fun v S9 e => h v S9 (Eq.trans e (if_pos q).symm); have ht := fun q_ v S9 e => ht q_ v S9 (Eq.trans e (if_pos q).symm)
      refine xj_E.adv 1 (pc' := 61) (ls' := [(0, .ref 0), (1, .int a), (2, .int b)]) (st' := [.ref 0]) (w' := (SH, S1, T)) rfl ?_
      refine xj_E.callt rfl rfl rfl rfl rfl rfl (fun _ => rfl) (ok_c_workOff (by omega) hd ?_ ?_)
      · intro v S9 e
        exact ⟨rfl, rfl, xj_E.ret rfl rfl rfl rfl (h _ _ e)⟩
      · intro q v S9 e
        exact ht _ _ _ e
    · have hd := hd.2 q
      have h := fun v S9 e => h v S9 (Eq.trans e (if_neg q).symm); have ht := fun q_ v S9 e => ht q_ v S9 (Eq.trans e (if_neg q).symm)
      refine xj_E.adv 5 (pc' := 43) (ls' := [(0, .ref 0), (1, .int a), (2, .int b)]) (st' := [.int b, .int a, .ref 20]) (w' := (SH, S1, T)) rfl ?_
      refine xj_E.iast rfl rfl hd.1 ?_
      have hd := hd.2
      refine xj_E.adv 7 (pc' := 54) (ls' := [(0, .ref 0), (1, .int a), (2, .int b)]) (st' := [.int (-1), .int (100 + a), .ref 1, .ref 0]) (w' := (SH, (xj_set S1 20 a.toNatClampNeg b), T)) rfl ?_
      refine xj_E.calli (d := D1) (S := SH) rfl rfl rfl rfl rfl (xj_E.deep (ok_p_partsHearing (d := 0) hd.1 ?_) (by omega))
      intro v e
      subst e
      refine ⟨_, _, _, rfl, rfl, rfl, rfl, ?_⟩
      have hd := hd.2
      refine xj_E.callv (d := D1) (S := SH) rfl rfl rfl rfl rfl (ok_c_markAll (by omega) hd.1 ?_)
      intro v2 S2 e2
      refine ⟨_, _, rfl, rfl, rfl, rfl, ?_⟩
      have hd := hd.2
      rw [← e2] at hd h ht
      refine xj_E.adv 1 (pc' := 61) (ls' := [(0, .ref 0), (1, .int a), (2, .int b)]) (st' := [.ref 0]) (w' := (SH, S2, T)) rfl ?_
      refine xj_E.callt rfl rfl rfl rfl rfl rfl (fun _ => rfl) (ok_c_workOff (by omega) hd ?_ ?_)
      · intro v S9 e
        exact ⟨rfl, rfl, xj_E.ret rfl rfl rfl rfl (h _ _ e)⟩
      · intro q v S9 e
        exact ht _ _ _ e
  · have hd := hd.2 q
    have h := fun v S9 e => h v S9 (Eq.trans e (if_neg q).symm); have ht := fun q_ v S9 e => ht q_ v S9 (Eq.trans e (if_neg q).symm)
    exact xj_E.thr rfl rfl rfl rfl rfl (ht 1 _ _ rfl)
