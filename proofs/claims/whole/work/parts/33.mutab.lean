/-! methods that store: our machine does so -/
seal f_l_copyFrom14 d_l_copyFrom14 f_l_copyFrom23 d_l_copyFrom23 f_l_add d_l_add f_l_note d_l_note f_p_addItem d_p_addItem f_p_addSentry d_p_addSentry f_p_addPart d_p_addPart f_p_putIfPart d_p_putIfPart f_c_openCommand d_c_openCommand f_c_mark d_c_mark f_m_fail d_m_fail f_m_item d_m_item f_m_sentry d_m_sentry f_m_on d_m_on f_m_when d_m_when f_m_book d_m_book f_m_mark d_m_mark f_m_create d_m_create f_m_again d_m_again f_m_keep d_m_keep f_m_putBack d_m_putBack f_m_can d_m_can f_m_markVariable d_m_markVariable f_m_value d_m_value f_m_instances d_m_instances f_m_instance d_m_instance f_m_marked d_m_marked f_m_moves d_m_moves f_m_history d_m_history f_c_markSiblings d_c_markSiblings f_c_markAll d_c_markAll f_m_enter d_m_enter f_m_make d_m_make f_m_letIn d_m_letIn f_m_workOff d_m_workOff f_m_finish d_m_finish f_m_begin d_m_begin f_m_move d_m_move f_m_set d_m_set f_c_create d_c_create f_c_make d_c_make f_c_moveWhatIsIn d_c_moveWhatIsIn f_c_createWhatIsIn d_c_createWhatIsIn f_c_exitChildren d_c_exitChildren f_c_moveChildren d_c_moveChildren f_c_repeat d_c_repeat f_c_letIn d_c_letIn f_c_item d_c_item f_c_sentry d_c_sentry f_c_on d_c_on f_c_when d_c_when f_c_workOff d_c_workOff f_c_begin d_c_begin f_c_move d_c_move f_c_set d_c_set
set_option maxHeartbeats 4000000 in
set_option maxRecDepth 100000 in
theorem ok_m_on {L : Nat} {xs : Nat → Int32} {T : Nat → Nat → Int64} {D : Nat} {S : (Nat → Nat → Int32)} {P : (Option Value ⊕ Nat) → xj_W → Nat → Nat → Prop} {a b c : Int32} (hD : 1 ≤ D) (hd : d_m_on a b c S) (h : ∀ v S9, (v, S9) = f_m_on a b c S → P (.inl (some (.int v))) (SH, S9, T) 0 0) : xj_E (xX L xs) D 74 0 [(0, .ref 32), (1, .int a), (2, .int b), (3, .int c)] [] (SH, S, T) P := by
  unfold d_m_on at hd
  unfold f_m_on at h
  obtain ⟨D1, rfl⟩ : ∃ D1, D = D1 + 1 := ⟨D - 1, by omega⟩
  refine xj_E.adv 6 (pc' := (if xj_cmp .ne (S 32 15) 0 = true then 30 else 12)) (ls' := [(0, .ref 32), (1, .int a), (2, .int b), (3, .int c)]) (st' := []) (w' := (SH, (xj_set S 32 0 0), T)) rfl ?_
  refine xj_E.b_ne (fun q => ?_) (fun q => ?_)
  · have hd := hd.1 q
    have h := fun v S9 e => h v S9 (Eq.trans e (if_pos q).symm)
    refine xj_E.adv 2 (pc' := 32) (ls' := [(0, .ref 32), (1, .int a), (2, .int b), (3, .int c)]) (st' := [.int 1, .ref 32]) (w' := (SH, (xj_set S 32 0 0), T)) rfl ?_
    refine xj_E.calli (d := D1) (S := SH) rfl rfl rfl rfl rfl (ok_m_fail (by omega) hd.1 ?_)
    intro v1 S1 e1
    refine ⟨_, _, _, rfl, rfl, rfl, rfl, ?_⟩
    have hd := hd.2
    rw [← e1] at hd h
    exact xj_E.ret rfl rfl rfl rfl (h _ _ rfl)
  · have hd := hd.2 q
    have h := fun v S9 e => h v S9 (Eq.trans e (if_neg q).symm)
    refine xj_E.adv 2 (pc' := 14) (ls' := [(0, .ref 32), (1, .int a), (2, .int b), (3, .int c)]) (st' := [.int a, .ref 32]) (w' := (SH, (xj_set S 32 0 0), T)) rfl ?_
    refine xj_E.calli (d := D1) (S := SH) rfl rfl rfl rfl rfl (xj_E.deep (ok_m_isSentry (d := 0) hd.1 ?_) (by omega))
    intro v e
    subst e
    refine ⟨_, _, _, rfl, rfl, rfl, rfl, ?_⟩
    have hd := hd.2
    refine xj_E.adv 1 (pc' := (if xj_cmp .eq (r_m_isSentry (xj_set S 32 0 0) a) 0 = true then 36 else 20)) (ls' := [(0, .ref 32), (1, .int a), (2, .int b), (3, .int c)]) (st' := []) (w' := (SH, (xj_set S 32 0 0), T)) rfl ?_
    refine xj_E.b_eq (fun q => ?_) (fun q => ?_)
    · have hd := hd.1 q
      have h := fun v S9 e => h v S9 (Eq.trans e (if_pos q).symm)
      refine xj_E.adv 2 (pc' := 38) (ls' := [(0, .ref 32), (1, .int a), (2, .int b), (3, .int c)]) (st' := [.int a, .ref 32]) (w' := (SH, (xj_set S 32 0 0), T)) rfl ?_
      refine xj_E.calli (d := D1) (S := SH) rfl rfl rfl rfl rfl (xj_E.deep (ok_m_isSentry (d := 0) hd.1 ?_) (by omega))
      intro v e
      subst e
      refine ⟨_, _, _, rfl, rfl, rfl, rfl, ?_⟩
      have hd := hd.2
      refine xj_E.adv 1 (pc' := (if xj_cmp .ne (r_m_isSentry (xj_set S 32 0 0) a) 0 = true then 50 else 44)) (ls' := [(0, .ref 32), (1, .int a), (2, .int b), (3, .int c)]) (st' := []) (w' := (SH, (xj_set S 32 0 0), T)) rfl ?_
      refine xj_E.b_ne (fun q => ?_) (fun q => ?_)
      · have hd := hd.1 q
        have h := fun v S9 e => h v S9 (Eq.trans e (if_pos q).symm)
        refine xj_E.adv 2 (pc' := (if xj_cmp .lt b 0 = true then 66 else 54)) (ls' := [(0, .ref 32), (1, .int a), (2, .int b), (3, .int c)]) (st' := []) (w' := (SH, (xj_set S 32 0 0), T)) rfl ?_
        refine xj_E.b_lt (fun q => ?_) (fun q => ?_)
        · have hd := hd.1 q
          have h := fun v S9 e => h v S9 (Eq.trans e (if_pos q).symm)
          refine xj_E.adv 8 (pc' := 79) (ls' := [(4, .int 0), (0, .ref 32), (1, .int a), (2, .int b), (3, .int c)]) (st' := [.int 3, .int (b - 100)]) (w' := (SH, (xj_set S 32 0 0), T)) rfl ?_
          refine xj_E.calli (d := D1) (S := SH) rfl rfl rfl rfl rfl (xj_E.deep (ok_m_within (d := 0) hd.1 ?_) (by omega))
          intro v e
          subst e
          refine ⟨_, _, _, rfl, rfl, rfl, rfl, ?_⟩
          have hd := hd.2
          refine xj_E.adv 1 (pc' := (if xj_cmp .ne (r_m_within (xj_set S 32 0 0) (b - 100) 3) 0 = true then 91 else 85)) (ls' := [(4, .int 0), (0, .ref 32), (1, .int a), (2, .int b), (3, .int c)]) (st' := []) (w' := (SH, (xj_set S 32 0 0), T)) rfl ?_
          refine xj_E.b_ne (fun q => ?_) (fun q => ?_)
          · have hd := hd.1 q
            have h := fun v S9 e => h v S9 (Eq.trans e (if_pos q).symm)
            refine xj_E.adv 8 (pc' := 149) (ls' := [(4, .int 0), (0, .ref 32), (1, .int a), (2, .int b), (3, .int c)]) (st' := [.int a, .ref 38, .int (2 * a)]) (w' := (SH, (xj_set S 32 0 0), T)) rfl ?_
            refine xj_E.iald rfl rfl hd.1 ?_
            have hd := hd.2
            refine xj_E.adv 6 (pc' := 160) (ls' := [(5, .int ((2 * a) + (S 38 a.toNatClampNeg))), (4, .int 0), (0, .ref 32), (1, .int a), (2, .int b), (3, .int c)]) (st' := [.int b, .int ((2 * a) + (S 38 a.toNatClampNeg)), .ref 39]) (w' := (SH, (xj_set S 32 0 0), T)) rfl ?_
            refine xj_E.iast rfl rfl hd.1 ?_
            have hd := hd.2
            refine xj_E.adv 4 (pc' := 168) (ls' := [(5, .int ((2 * a) + (S 38 a.toNatClampNeg))), (4, .int 0), (0, .ref 32), (1, .int a), (2, .int b), (3, .int c)]) (st' := [.int c, .int ((2 * a) + (S 38 a.toNatClampNeg)), .ref 40]) (w' := (SH, (xj_set (xj_set S 32 0 0) 39 ((2 * a) + (S 38 a.toNatClampNeg)).toNatClampNeg b), T)) rfl ?_
            refine xj_E.iast rfl rfl hd.1 ?_
            have hd := hd.2
            refine xj_E.adv 4 (pc' := 175) (ls' := [(5, .int ((2 * a) + (S 38 a.toNatClampNeg))), (4, .int 0), (0, .ref 32), (1, .int a), (2, .int b), (3, .int c)]) (st' := [.int a, .ref 38, .int a, .ref 38]) (w' := (SH, (xj_set (xj_set (xj_set S 32 0 0) 39 ((2 * a) + (S 38 a.toNatClampNeg)).toNatClampNeg b) 40 ((2 * a) + (S 38 a.toNatClampNeg)).toNatClampNeg c), T)) rfl ?_
            refine xj_E.iald rfl rfl hd.1 ?_
            have hd := hd.2
            refine xj_E.adv 2 (pc' := 178) (ls' := [(5, .int ((2 * a) + (S 38 a.toNatClampNeg))), (4, .int 0), (0, .ref 32), (1, .int a), (2, .int b), (3, .int c)]) (st' := [.int ((S 38 a.toNatClampNeg) + 1), .int a, .ref 38]) (w' := (SH, (xj_set (xj_set (xj_set S 32 0 0) 39 ((2 * a) + (S 38 a.toNatClampNeg)).toNatClampNeg b) 40 ((2 * a) + (S 38 a.toNatClampNeg)).toNatClampNeg c), T)) rfl ?_
            refine xj_E.iast rfl rfl hd.1 ?_
            have hd := hd.2
            refine xj_E.adv 3 (pc' := 184) (ls' := [(5, .int ((2 * a) + (S 38 a.toNatClampNeg))), (4, .int 0), (0, .ref 32), (1, .int a), (2, .int b), (3, .int c)]) (st' := [.int a, .ref 38]) (w' := (SH, (xj_set (xj_set (xj_set (xj_set S 32 0 0) 39 ((2 * a) + (S 38 a.toNatClampNeg)).toNatClampNeg b) 40 ((2 * a) + (S 38 a.toNatClampNeg)).toNatClampNeg c) 38 a.toNatClampNeg ((S 38 a.toNatClampNeg) + 1)), T)) rfl ?_
            refine xj_E.iald rfl rfl hd.1 ?_
            have hd := hd.2
            exact xj_E.ret rfl rfl rfl rfl (h _ _ rfl)
          · have hd := hd.2 q
            have h := fun v S9 e => h v S9 (Eq.trans e (if_neg q).symm)
            refine xj_E.adv 2 (pc' := 87) (ls' := [(4, .int 0), (0, .ref 32), (1, .int a), (2, .int b), (3, .int c)]) (st' := [.int 2, .ref 32]) (w' := (SH, (xj_set S 32 0 0), T)) rfl ?_
            refine xj_E.calli (d := D1) (S := SH) rfl rfl rfl rfl rfl (ok_m_fail (by omega) hd.1 ?_)
            intro v2 S2 e2
            refine ⟨_, _, _, rfl, rfl, rfl, rfl, ?_⟩
            have hd := hd.2
            rw [← e2] at hd h
            exact xj_E.ret rfl rfl rfl rfl (h _ _ rfl)
        · have hd := hd.2 q
          have h := fun v S9 e => h v S9 (Eq.trans e (if_neg q).symm)
          refine xj_E.adv 4 (pc' := (if xj_cmp .ge b (S 32 1) = true then 66 else 62)) (ls' := [(0, .ref 32), (1, .int a), (2, .int b), (3, .int c)]) (st' := []) (w' := (SH, (xj_set S 32 0 0), T)) rfl ?_
          refine xj_E.b_ge (fun q => ?_) (fun q => ?_)
          · have hd := hd.1 q
            have h := fun v S9 e => h v S9 (Eq.trans e (if_pos q).symm)
            refine xj_E.adv 8 (pc' := 79) (ls' := [(4, .int 0), (0, .ref 32), (1, .int a), (2, .int b), (3, .int c)]) (st' := [.int 3, .int (b - 100)]) (w' := (SH, (xj_set S 32 0 0), T)) rfl ?_
            refine xj_E.calli (d := D1) (S := SH) rfl rfl rfl rfl rfl (xj_E.deep (ok_m_within (d := 0) hd.1 ?_) (by omega))
            intro v e
            subst e
            refine ⟨_, _, _, rfl, rfl, rfl, rfl, ?_⟩
            have hd := hd.2
            refine xj_E.adv 1 (pc' := (if xj_cmp .ne (r_m_within (xj_set S 32 0 0) (b - 100) 3) 0 = true then 91 else 85)) (ls' := [(4, .int 0), (0, .ref 32), (1, .int a), (2, .int b), (3, .int c)]) (st' := []) (w' := (SH, (xj_set S 32 0 0), T)) rfl ?_
            refine xj_E.b_ne (fun q => ?_) (fun q => ?_)
            · have hd := hd.1 q
              have h := fun v S9 e => h v S9 (Eq.trans e (if_pos q).symm)
              refine xj_E.adv 8 (pc' := 149) (ls' := [(4, .int 0), (0, .ref 32), (1, .int a), (2, .int b), (3, .int c)]) (st' := [.int a, .ref 38, .int (2 * a)]) (w' := (SH, (xj_set S 32 0 0), T)) rfl ?_
              refine xj_E.iald rfl rfl hd.1 ?_
              have hd := hd.2
              refine xj_E.adv 6 (pc' := 160) (ls' := [(5, .int ((2 * a) + (S 38 a.toNatClampNeg))), (4, .int 0), (0, .ref 32), (1, .int a), (2, .int b), (3, .int c)]) (st' := [.int b, .int ((2 * a) + (S 38 a.toNatClampNeg)), .ref 39]) (w' := (SH, (xj_set S 32 0 0), T)) rfl ?_
              refine xj_E.iast rfl rfl hd.1 ?_
              have hd := hd.2
              refine xj_E.adv 4 (pc' := 168) (ls' := [(5, .int ((2 * a) + (S 38 a.toNatClampNeg))), (4, .int 0), (0, .ref 32), (1, .int a), (2, .int b), (3, .int c)]) (st' := [.int c, .int ((2 * a) + (S 38 a.toNatClampNeg)), .ref 40]) (w' := (SH, (xj_set (xj_set S 32 0 0) 39 ((2 * a) + (S 38 a.toNatClampNeg)).toNatClampNeg b), T)) rfl ?_
              refine xj_E.iast rfl rfl hd.1 ?_
              have hd := hd.2
              refine xj_E.adv 4 (pc' := 175) (ls' := [(5, .int ((2 * a) + (S 38 a.toNatClampNeg))), (4, .int 0), (0, .ref 32), (1, .int a), (2, .int b), (3, .int c)]) (st' := [.int a, .ref 38, .int a, .ref 38]) (w' := (SH, (xj_set (xj_set (xj_set S 32 0 0) 39 ((2 * a) + (S 38 a.toNatClampNeg)).toNatClampNeg b) 40 ((2 * a) + (S 38 a.toNatClampNeg)).toNatClampNeg c), T)) rfl ?_
              refine xj_E.iald rfl rfl hd.1 ?_
              have hd := hd.2
              refine xj_E.adv 2 (pc' := 178) (ls' := [(5, .int ((2 * a) + (S 38 a.toNatClampNeg))), (4, .int 0), (0, .ref 32), (1, .int a), (2, .int b), (3, .int c)]) (st' := [.int ((S 38 a.toNatClampNeg) + 1), .int a, .ref 38]) (w' := (SH, (xj_set (xj_set (xj_set S 32 0 0) 39 ((2 * a) + (S 38 a.toNatClampNeg)).toNatClampNeg b) 40 ((2 * a) + (S 38 a.toNatClampNeg)).toNatClampNeg c), T)) rfl ?_
              refine xj_E.iast rfl rfl hd.1 ?_
              have hd := hd.2
              refine xj_E.adv 3 (pc' := 184) (ls' := [(5, .int ((2 * a) + (S 38 a.toNatClampNeg))), (4, .int 0), (0, .ref 32), (1, .int a), (2, .int b), (3, .int c)]) (st' := [.int a, .ref 38]) (w' := (SH, (xj_set (xj_set (xj_set (xj_set S 32 0 0) 39 ((2 * a) + (S 38 a.toNatClampNeg)).toNatClampNeg b) 40 ((2 * a) + (S 38 a.toNatClampNeg)).toNatClampNeg c) 38 a.toNatClampNeg ((S 38 a.toNatClampNeg) + 1)), T)) rfl ?_
              refine xj_E.iald rfl rfl hd.1 ?_
              have hd := hd.2
              exact xj_E.ret rfl rfl rfl rfl (h _ _ rfl)
            · have hd := hd.2 q
              have h := fun v S9 e => h v S9 (Eq.trans e (if_neg q).symm)
              refine xj_E.adv 2 (pc' := 87) (ls' := [(4, .int 0), (0, .ref 32), (1, .int a), (2, .int b), (3, .int c)]) (st' := [.int 2, .ref 32]) (w' := (SH, (xj_set S 32 0 0), T)) rfl ?_
              refine xj_E.calli (d := D1) (S := SH) rfl rfl rfl rfl rfl (ok_m_fail (by omega) hd.1 ?_)
              intro v3 S3 e3
              refine ⟨_, _, _, rfl, rfl, rfl, rfl, ?_⟩
              have hd := hd.2
              rw [← e3] at hd h
              exact xj_E.ret rfl rfl rfl rfl (h _ _ rfl)
          · have hd := hd.2 q
            have h := fun v S9 e => h v S9 (Eq.trans e (if_neg q).symm)
            refine xj_E.adv 11 (pc' := 102) (ls' := [(4, .int 1), (0, .ref 32), (1, .int a), (2, .int b), (3, .int c)]) (st' := [.int a, .ref 36, .int b]) (w' := (SH, (xj_set S 32 0 0), T)) rfl ?_
            refine xj_E.iald rfl rfl hd.1 ?_
            have hd := hd.2
            refine xj_E.adv 1 (pc' := (if xj_cmp .eq b (S 36 a.toNatClampNeg) = true then 135 else 106)) (ls' := [(4, .int 1), (0, .ref 32), (1, .int a), (2, .int b), (3, .int c)]) (st' := []) (w' := (SH, (xj_set S 32 0 0), T)) rfl ?_
            refine xj_E.b_eq (fun q => ?_) (fun q => ?_)
            · have hd := hd.1 q
              have h := fun v S9 e => h v S9 (Eq.trans e (if_pos q).symm)
              refine xj_E.adv 2 (pc' := 137) (ls' := [(4, .int 1), (0, .ref 32), (1, .int a), (2, .int b), (3, .int c)]) (st' := [.int 2, .ref 32]) (w' := (SH, (xj_set S 32 0 0), T)) rfl ?_
              refine xj_E.calli (d := D1) (S := SH) rfl rfl rfl rfl rfl (ok_m_fail (by omega) hd.1 ?_)
              intro v4 S4 e4
              refine ⟨_, _, _, rfl, rfl, rfl, rfl, ?_⟩
              have hd := hd.2
              rw [← e4] at hd h
              exact xj_E.ret rfl rfl rfl rfl (h _ _ rfl)
            · have hd := hd.2 q
              have h := fun v S9 e => h v S9 (Eq.trans e (if_neg q).symm)
              refine xj_E.adv 3 (pc' := 111) (ls' := [(4, .int 1), (0, .ref 32), (1, .int a), (2, .int b), (3, .int c)]) (st' := [.int b, .ref 34]) (w' := (SH, (xj_set S 32 0 0), T)) rfl ?_
              refine xj_E.iald rfl rfl hd.1 ?_
              have hd := hd.2
              refine xj_E.adv 5 (pc' := 121) (ls' := [(4, .int 1), (0, .ref 32), (1, .int a), (2, .int b), (3, .int c)]) (st' := [.int a, .ref 36, .ref 34, .int (S 34 b.toNatClampNeg)]) (w' := (SH, (xj_set S 32 0 0), T)) rfl ?_
              refine xj_E.iald rfl rfl hd.1 ?_
              have hd := hd.2
              refine xj_E.iald rfl rfl hd.1 ?_
              have hd := hd.2
              refine xj_E.adv 1 (pc' := (if xj_cmp .ne (S 34 b.toNatClampNeg) (S 34 (S 36 a.toNatClampNeg).toNatClampNeg) = true then 135 else 126)) (ls' := [(4, .int 1), (0, .ref 32), (1, .int a), (2, .int b), (3, .int c)]) (st' := []) (w' := (SH, (xj_set S 32 0 0), T)) rfl ?_
              refine xj_E.b_ne (fun q => ?_) (fun q => ?_)
              · have hd := hd.1 q
                have h := fun v S9 e => h v S9 (Eq.trans e (if_pos q).symm)
                refine xj_E.adv 2 (pc' := 137) (ls' := [(4, .int 1), (0, .ref 32), (1, .int a), (2, .int b), (3, .int c)]) (st' := [.int 2, .ref 32]) (w' := (SH, (xj_set S 32 0 0), T)) rfl ?_
                refine xj_E.calli (d := D1) (S := SH) rfl rfl rfl rfl rfl (ok_m_fail (by omega) hd.1 ?_)
                intro v5 S5 e5
                refine ⟨_, _, _, rfl, rfl, rfl, rfl, ?_⟩
                have hd := hd.2
                rw [← e5] at hd h
                exact xj_E.ret rfl rfl rfl rfl (h _ _ rfl)
              · have hd := hd.2 q
                have h := fun v S9 e => h v S9 (Eq.trans e (if_neg q).symm)
                refine xj_E.adv 2 (pc' := 129) (ls' := [(4, .int 1), (0, .ref 32), (1, .int a), (2, .int b), (3, .int c)]) (st' := [.int 9, .int c]) (w' := (SH, (xj_set S 32 0 0), T)) rfl ?_
                refine xj_E.calli (d := D1) (S := SH) rfl rfl rfl rfl rfl (xj_E.deep (ok_m_within (d := 0) hd.1 ?_) (by omega))
                intro v e
                subst e
                refine ⟨_, _, _, rfl, rfl, rfl, rfl, ?_⟩
                have hd := hd.2
                refine xj_E.adv 1 (pc' := (if xj_cmp .ne (r_m_within (xj_set S 32 0 0) c 9) 0 = true then 141 else 135)) (ls' := [(4, .int 1), (0, .ref 32), (1, .int a), (2, .int b), (3, .int c)]) (st' := []) (w' := (SH, (xj_set S 32 0 0), T)) rfl ?_
                refine xj_E.b_ne (fun q => ?_) (fun q => ?_)
                · have hd := hd.1 q
                  have h := fun v S9 e => h v S9 (Eq.trans e (if_pos q).symm)
                  refine xj_E.adv 6 (pc' := 149) (ls' := [(4, .int 1), (0, .ref 32), (1, .int a), (2, .int b), (3, .int c)]) (st' := [.int a, .ref 38, .int (2 * a)]) (w' := (SH, (xj_set S 32 0 0), T)) rfl ?_
                  refine xj_E.iald rfl rfl hd.1 ?_
                  have hd := hd.2
                  refine xj_E.adv 6 (pc' := 160) (ls' := [(5, .int ((2 * a) + (S 38 a.toNatClampNeg))), (4, .int 1), (0, .ref 32), (1, .int a), (2, .int b), (3, .int c)]) (st' := [.int b, .int ((2 * a) + (S 38 a.toNatClampNeg)), .ref 39]) (w' := (SH, (xj_set S 32 0 0), T)) rfl ?_
                  refine xj_E.iast rfl rfl hd.1 ?_
                  have hd := hd.2
                  refine xj_E.adv 4 (pc' := 168) (ls' := [(5, .int ((2 * a) + (S 38 a.toNatClampNeg))), (4, .int 1), (0, .ref 32), (1, .int a), (2, .int b), (3, .int c)]) (st' := [.int c, .int ((2 * a) + (S 38 a.toNatClampNeg)), .ref 40]) (w' := (SH, (xj_set (xj_set S 32 0 0) 39 ((2 * a) + (S 38 a.toNatClampNeg)).toNatClampNeg b), T)) rfl ?_
                  refine xj_E.iast rfl rfl hd.1 ?_
                  have hd := hd.2
                  refine xj_E.adv 4 (pc' := 175) (ls' := [(5, .int ((2 * a) + (S 38 a.toNatClampNeg))), (4, .int 1), (0, .ref 32), (1, .int a), (2, .int b), (3, .int c)]) (st' := [.int a, .ref 38, .int a, .ref 38]) (w' := (SH, (xj_set (xj_set (xj_set S 32 0 0) 39 ((2 * a) + (S 38 a.toNatClampNeg)).toNatClampNeg b) 40 ((2 * a) + (S 38 a.toNatClampNeg)).toNatClampNeg c), T)) rfl ?_
                  refine xj_E.iald rfl rfl hd.1 ?_
                  have hd := hd.2
                  refine xj_E.adv 2 (pc' := 178) (ls' := [(5, .int ((2 * a) + (S 38 a.toNatClampNeg))), (4, .int 1), (0, .ref 32), (1, .int a), (2, .int b), (3, .int c)]) (st' := [.int ((S 38 a.toNatClampNeg) + 1), .int a, .ref 38]) (w' := (SH, (xj_set (xj_set (xj_set S 32 0 0) 39 ((2 * a) + (S 38 a.toNatClampNeg)).toNatClampNeg b) 40 ((2 * a) + (S 38 a.toNatClampNeg)).toNatClampNeg c), T)) rfl ?_
                  refine xj_E.iast rfl rfl hd.1 ?_
                  have hd := hd.2
                  refine xj_E.adv 3 (pc' := 184) (ls' := [(5, .int ((2 * a) + (S 38 a.toNatClampNeg))), (4, .int 1), (0, .ref 32), (1, .int a), (2, .int b), (3, .int c)]) (st' := [.int a, .ref 38]) (w' := (SH, (xj_set (xj_set (xj_set (xj_set S 32 0 0) 39 ((2 * a) + (S 38 a.toNatClampNeg)).toNatClampNeg b) 40 ((2 * a) + (S 38 a.toNatClampNeg)).toNatClampNeg c) 38 a.toNatClampNeg ((S 38 a.toNatClampNeg) + 1)), T)) rfl ?_
                  refine xj_E.iald rfl rfl hd.1 ?_
                  have hd := hd.2
                  exact xj_E.ret rfl rfl rfl rfl (h _ _ rfl)
                · have hd := hd.2 q
                  have h := fun v S9 e => h v S9 (Eq.trans e (if_neg q).symm)
                  refine xj_E.adv 2 (pc' := 137) (ls' := [(4, .int 1), (0, .ref 32), (1, .int a), (2, .int b), (3, .int c)]) (st' := [.int 2, .ref 32]) (w' := (SH, (xj_set S 32 0 0), T)) rfl ?_
                  refine xj_E.calli (d := D1) (S := SH) rfl rfl rfl rfl rfl (ok_m_fail (by omega) hd.1 ?_)
                  intro v6 S6 e6
                  refine ⟨_, _, _, rfl, rfl, rfl, rfl, ?_⟩
                  have hd := hd.2
                  rw [← e6] at hd h
                  exact xj_E.ret rfl rfl rfl rfl (h _ _ rfl)
      · have hd := hd.2 q
        have h := fun v S9 e => h v S9 (Eq.trans e (if_neg q).symm)
        refine xj_E.adv 2 (pc' := 46) (ls' := [(0, .ref 32), (1, .int a), (2, .int b), (3, .int c)]) (st' := [.int 2, .ref 32]) (w' := (SH, (xj_set S 32 0 0), T)) rfl ?_
        refine xj_E.calli (d := D1) (S := SH) rfl rfl rfl rfl rfl (ok_m_fail (by omega) hd.1 ?_)
        intro v7 S7 e7
        refine ⟨_, _, _, rfl, rfl, rfl, rfl, ?_⟩
        have hd := hd.2
        rw [← e7] at hd h
        exact xj_E.ret rfl rfl rfl rfl (h _ _ rfl)
    · have hd := hd.2 q
      have h := fun v S9 e => h v S9 (Eq.trans e (if_neg q).symm)
      refine xj_E.adv 3 (pc' := 25) (ls' := [(0, .ref 32), (1, .int a), (2, .int b), (3, .int c)]) (st' := [.int a, .ref 38]) (w' := (SH, (xj_set S 32 0 0), T)) rfl ?_
      refine xj_E.iald rfl rfl hd.1 ?_
      have hd := hd.2
      refine xj_E.adv 2 (pc' := (if xj_cmp .ne (S 38 a.toNatClampNeg) 2 = true then 36 else 30)) (ls' := [(0, .ref 32), (1, .int a), (2, .int b), (3, .int c)]) (st' := []) (w' := (SH, (xj_set S 32 0 0), T)) rfl ?_
      refine xj_E.b_ne (fun q => ?_) (fun q => ?_)
      · have hd := hd.1 q
        have h := fun v S9 e => h v S9 (Eq.trans e (if_pos q).symm)
        refine xj_E.adv 2 (pc' := 38) (ls' := [(0, .ref 32), (1, .int a), (2, .int b), (3, .int c)]) (st' := [.int a, .ref 32]) (w' := (SH, (xj_set S 32 0 0), T)) rfl ?_
        refine xj_E.calli (d := D1) (S := SH) rfl rfl rfl rfl rfl (xj_E.deep (ok_m_isSentry (d := 0) hd.1 ?_) (by omega))
        intro v e
        subst e
        refine ⟨_, _, _, rfl, rfl, rfl, rfl, ?_⟩
        have hd := hd.2
        refine xj_E.adv 1 (pc' := (if xj_cmp .ne (r_m_isSentry (xj_set S 32 0 0) a) 0 = true then 50 else 44)) (ls' := [(0, .ref 32), (1, .int a), (2, .int b), (3, .int c)]) (st' := []) (w' := (SH, (xj_set S 32 0 0), T)) rfl ?_
        refine xj_E.b_ne (fun q => ?_) (fun q => ?_)
        · have hd := hd.1 q
          have h := fun v S9 e => h v S9 (Eq.trans e (if_pos q).symm)
          refine xj_E.adv 2 (pc' := (if xj_cmp .lt b 0 = true then 66 else 54)) (ls' := [(0, .ref 32), (1, .int a), (2, .int b), (3, .int c)]) (st' := []) (w' := (SH, (xj_set S 32 0 0), T)) rfl ?_
          refine xj_E.b_lt (fun q => ?_) (fun q => ?_)
          · have hd := hd.1 q
            have h := fun v S9 e => h v S9 (Eq.trans e (if_pos q).symm)
            refine xj_E.adv 8 (pc' := 79) (ls' := [(4, .int 0), (0, .ref 32), (1, .int a), (2, .int b), (3, .int c)]) (st' := [.int 3, .int (b - 100)]) (w' := (SH, (xj_set S 32 0 0), T)) rfl ?_
            refine xj_E.calli (d := D1) (S := SH) rfl rfl rfl rfl rfl (xj_E.deep (ok_m_within (d := 0) hd.1 ?_) (by omega))
            intro v e
            subst e
            refine ⟨_, _, _, rfl, rfl, rfl, rfl, ?_⟩
            have hd := hd.2
            refine xj_E.adv 1 (pc' := (if xj_cmp .ne (r_m_within (xj_set S 32 0 0) (b - 100) 3) 0 = true then 91 else 85)) (ls' := [(4, .int 0), (0, .ref 32), (1, .int a), (2, .int b), (3, .int c)]) (st' := []) (w' := (SH, (xj_set S 32 0 0), T)) rfl ?_
            refine xj_E.b_ne (fun q => ?_) (fun q => ?_)
            · have hd := hd.1 q
              have h := fun v S9 e => h v S9 (Eq.trans e (if_pos q).symm)
              refine xj_E.adv 8 (pc' := 149) (ls' := [(4, .int 0), (0, .ref 32), (1, .int a), (2, .int b), (3, .int c)]) (st' := [.int a, .ref 38, .int (2 * a)]) (w' := (SH, (xj_set S 32 0 0), T)) rfl ?_
              refine xj_E.iald rfl rfl hd.1 ?_
              have hd := hd.2
              refine xj_E.adv 6 (pc' := 160) (ls' := [(5, .int ((2 * a) + (S 38 a.toNatClampNeg))), (4, .int 0), (0, .ref 32), (1, .int a), (2, .int b), (3, .int c)]) (st' := [.int b, .int ((2 * a) + (S 38 a.toNatClampNeg)), .ref 39]) (w' := (SH, (xj_set S 32 0 0), T)) rfl ?_
              refine xj_E.iast rfl rfl hd.1 ?_
              have hd := hd.2
              refine xj_E.adv 4 (pc' := 168) (ls' := [(5, .int ((2 * a) + (S 38 a.toNatClampNeg))), (4, .int 0), (0, .ref 32), (1, .int a), (2, .int b), (3, .int c)]) (st' := [.int c, .int ((2 * a) + (S 38 a.toNatClampNeg)), .ref 40]) (w' := (SH, (xj_set (xj_set S 32 0 0) 39 ((2 * a) + (S 38 a.toNatClampNeg)).toNatClampNeg b), T)) rfl ?_
              refine xj_E.iast rfl rfl hd.1 ?_
              have hd := hd.2
              refine xj_E.adv 4 (pc' := 175) (ls' := [(5, .int ((2 * a) + (S 38 a.toNatClampNeg))), (4, .int 0), (0, .ref 32), (1, .int a), (2, .int b), (3, .int c)]) (st' := [.int a, .ref 38, .int a, .ref 38]) (w' := (SH, (xj_set (xj_set (xj_set S 32 0 0) 39 ((2 * a) + (S 38 a.toNatClampNeg)).toNatClampNeg b) 40 ((2 * a) + (S 38 a.toNatClampNeg)).toNatClampNeg c), T)) rfl ?_
              refine xj_E.iald rfl rfl hd.1 ?_
              have hd := hd.2
              refine xj_E.adv 2 (pc' := 178) (ls' := [(5, .int ((2 * a) + (S 38 a.toNatClampNeg))), (4, .int 0), (0, .ref 32), (1, .int a), (2, .int b), (3, .int c)]) (st' := [.int ((S 38 a.toNatClampNeg) + 1), .int a, .ref 38]) (w' := (SH, (xj_set (xj_set (xj_set S 32 0 0) 39 ((2 * a) + (S 38 a.toNatClampNeg)).toNatClampNeg b) 40 ((2 * a) + (S 38 a.toNatClampNeg)).toNatClampNeg c), T)) rfl ?_
              refine xj_E.iast rfl rfl hd.1 ?_
              have hd := hd.2
              refine xj_E.adv 3 (pc' := 184) (ls' := [(5, .int ((2 * a) + (S 38 a.toNatClampNeg))), (4, .int 0), (0, .ref 32), (1, .int a), (2, .int b), (3, .int c)]) (st' := [.int a, .ref 38]) (w' := (SH, (xj_set (xj_set (xj_set (xj_set S 32 0 0) 39 ((2 * a) + (S 38 a.toNatClampNeg)).toNatClampNeg b) 40 ((2 * a) + (S 38 a.toNatClampNeg)).toNatClampNeg c) 38 a.toNatClampNeg ((S 38 a.toNatClampNeg) + 1)), T)) rfl ?_
              refine xj_E.iald rfl rfl hd.1 ?_
              have hd := hd.2
              exact xj_E.ret rfl rfl rfl rfl (h _ _ rfl)
            · have hd := hd.2 q
              have h := fun v S9 e => h v S9 (Eq.trans e (if_neg q).symm)
              refine xj_E.adv 2 (pc' := 87) (ls' := [(4, .int 0), (0, .ref 32), (1, .int a), (2, .int b), (3, .int c)]) (st' := [.int 2, .ref 32]) (w' := (SH, (xj_set S 32 0 0), T)) rfl ?_
              refine xj_E.calli (d := D1) (S := SH) rfl rfl rfl rfl rfl (ok_m_fail (by omega) hd.1 ?_)
              intro v8 S8 e8
              refine ⟨_, _, _, rfl, rfl, rfl, rfl, ?_⟩
              have hd := hd.2
              rw [← e8] at hd h
              exact xj_E.ret rfl rfl rfl rfl (h _ _ rfl)
          · have hd := hd.2 q
            have h := fun v S9 e => h v S9 (Eq.trans e (if_neg q).symm)
            refine xj_E.adv 4 (pc' := (if xj_cmp .ge b (S 32 1) = true then 66 else 62)) (ls' := [(0, .ref 32), (1, .int a), (2, .int b), (3, .int c)]) (st' := []) (w' := (SH, (xj_set S 32 0 0), T)) rfl ?_
            refine xj_E.b_ge (fun q => ?_) (fun q => ?_)
            · have hd := hd.1 q
              have h := fun v S9 e => h v S9 (Eq.trans e (if_pos q).symm)
              refine xj_E.adv 8 (pc' := 79) (ls' := [(4, .int 0), (0, .ref 32), (1, .int a), (2, .int b), (3, .int c)]) (st' := [.int 3, .int (b - 100)]) (w' := (SH, (xj_set S 32 0 0), T)) rfl ?_
              refine xj_E.calli (d := D1) (S := SH) rfl rfl rfl rfl rfl (xj_E.deep (ok_m_within (d := 0) hd.1 ?_) (by omega))
              intro v e
              subst e
              refine ⟨_, _, _, rfl, rfl, rfl, rfl, ?_⟩
              have hd := hd.2
              refine xj_E.adv 1 (pc' := (if xj_cmp .ne (r_m_within (xj_set S 32 0 0) (b - 100) 3) 0 = true then 91 else 85)) (ls' := [(4, .int 0), (0, .ref 32), (1, .int a), (2, .int b), (3, .int c)]) (st' := []) (w' := (SH, (xj_set S 32 0 0), T)) rfl ?_
              refine xj_E.b_ne (fun q => ?_) (fun q => ?_)
              · have hd := hd.1 q
                have h := fun v S9 e => h v S9 (Eq.trans e (if_pos q).symm)
                refine xj_E.adv 8 (pc' := 149) (ls' := [(4, .int 0), (0, .ref 32), (1, .int a), (2, .int b), (3, .int c)]) (st' := [.int a, .ref 38, .int (2 * a)]) (w' := (SH, (xj_set S 32 0 0), T)) rfl ?_
                refine xj_E.iald rfl rfl hd.1 ?_
                have hd := hd.2
                refine xj_E.adv 6 (pc' := 160) (ls' := [(5, .int ((2 * a) + (S 38 a.toNatClampNeg))), (4, .int 0), (0, .ref 32), (1, .int a), (2, .int b), (3, .int c)]) (st' := [.int b, .int ((2 * a) + (S 38 a.toNatClampNeg)), .ref 39]) (w' := (SH, (xj_set S 32 0 0), T)) rfl ?_
                refine xj_E.iast rfl rfl hd.1 ?_
                have hd := hd.2
                refine xj_E.adv 4 (pc' := 168) (ls' := [(5, .int ((2 * a) + (S 38 a.toNatClampNeg))), (4, .int 0), (0, .ref 32), (1, .int a), (2, .int b), (3, .int c)]) (st' := [.int c, .int ((2 * a) + (S 38 a.toNatClampNeg)), .ref 40]) (w' := (SH, (xj_set (xj_set S 32 0 0) 39 ((2 * a) + (S 38 a.toNatClampNeg)).toNatClampNeg b), T)) rfl ?_
                refine xj_E.iast rfl rfl hd.1 ?_
                have hd := hd.2
                refine xj_E.adv 4 (pc' := 175) (ls' := [(5, .int ((2 * a) + (S 38 a.toNatClampNeg))), (4, .int 0), (0, .ref 32), (1, .int a), (2, .int b), (3, .int c)]) (st' := [.int a, .ref 38, .int a, .ref 38]) (w' := (SH, (xj_set (xj_set (xj_set S 32 0 0) 39 ((2 * a) + (S 38 a.toNatClampNeg)).toNatClampNeg b) 40 ((2 * a) + (S 38 a.toNatClampNeg)).toNatClampNeg c), T)) rfl ?_
                refine xj_E.iald rfl rfl hd.1 ?_
                have hd := hd.2
                refine xj_E.adv 2 (pc' := 178) (ls' := [(5, .int ((2 * a) + (S 38 a.toNatClampNeg))), (4, .int 0), (0, .ref 32), (1, .int a), (2, .int b), (3, .int c)]) (st' := [.int ((S 38 a.toNatClampNeg) + 1), .int a, .ref 38]) (w' := (SH, (xj_set (xj_set (xj_set S 32 0 0) 39 ((2 * a) + (S 38 a.toNatClampNeg)).toNatClampNeg b) 40 ((2 * a) + (S 38 a.toNatClampNeg)).toNatClampNeg c), T)) rfl ?_
                refine xj_E.iast rfl rfl hd.1 ?_
                have hd := hd.2
                refine xj_E.adv 3 (pc' := 184) (ls' := [(5, .int ((2 * a) + (S 38 a.toNatClampNeg))), (4, .int 0), (0, .ref 32), (1, .int a), (2, .int b), (3, .int c)]) (st' := [.int a, .ref 38]) (w' := (SH, (xj_set (xj_set (xj_set (xj_set S 32 0 0) 39 ((2 * a) + (S 38 a.toNatClampNeg)).toNatClampNeg b) 40 ((2 * a) + (S 38 a.toNatClampNeg)).toNatClampNeg c) 38 a.toNatClampNeg ((S 38 a.toNatClampNeg) + 1)), T)) rfl ?_
                refine xj_E.iald rfl rfl hd.1 ?_
                have hd := hd.2
                exact xj_E.ret rfl rfl rfl rfl (h _ _ rfl)
              · have hd := hd.2 q
                have h := fun v S9 e => h v S9 (Eq.trans e (if_neg q).symm)
                refine xj_E.adv 2 (pc' := 87) (ls' := [(4, .int 0), (0, .ref 32), (1, .int a), (2, .int b), (3, .int c)]) (st' := [.int 2, .ref 32]) (w' := (SH, (xj_set S 32 0 0), T)) rfl ?_
                refine xj_E.calli (d := D1) (S := SH) rfl rfl rfl rfl rfl (ok_m_fail (by omega) hd.1 ?_)
                intro v9 S9 e9
                refine ⟨_, _, _, rfl, rfl, rfl, rfl, ?_⟩
                have hd := hd.2
                rw [← e9] at hd h
                exact xj_E.ret rfl rfl rfl rfl (h _ _ rfl)
            · have hd := hd.2 q
              have h := fun v S9 e => h v S9 (Eq.trans e (if_neg q).symm)
              refine xj_E.adv 11 (pc' := 102) (ls' := [(4, .int 1), (0, .ref 32), (1, .int a), (2, .int b), (3, .int c)]) (st' := [.int a, .ref 36, .int b]) (w' := (SH, (xj_set S 32 0 0), T)) rfl ?_
              refine xj_E.iald rfl rfl hd.1 ?_
              have hd := hd.2
              refine xj_E.adv 1 (pc' := (if xj_cmp .eq b (S 36 a.toNatClampNeg) = true then 135 else 106)) (ls' := [(4, .int 1), (0, .ref 32), (1, .int a), (2, .int b), (3, .int c)]) (st' := []) (w' := (SH, (xj_set S 32 0 0), T)) rfl ?_
              refine xj_E.b_eq (fun q => ?_) (fun q => ?_)
              · have hd := hd.1 q
                have h := fun v S9 e => h v S9 (Eq.trans e (if_pos q).symm)
                refine xj_E.adv 2 (pc' := 137) (ls' := [(4, .int 1), (0, .ref 32), (1, .int a), (2, .int b), (3, .int c)]) (st' := [.int 2, .ref 32]) (w' := (SH, (xj_set S 32 0 0), T)) rfl ?_
                refine xj_E.calli (d := D1) (S := SH) rfl rfl rfl rfl rfl (ok_m_fail (by omega) hd.1 ?_)
                intro v10 S10 e10
                refine ⟨_, _, _, rfl, rfl, rfl, rfl, ?_⟩
                have hd := hd.2
                rw [← e10] at hd h
                exact xj_E.ret rfl rfl rfl rfl (h _ _ rfl)
              · have hd := hd.2 q
                have h := fun v S9 e => h v S9 (Eq.trans e (if_neg q).symm)
                refine xj_E.adv 3 (pc' := 111) (ls' := [(4, .int 1), (0, .ref 32), (1, .int a), (2, .int b), (3, .int c)]) (st' := [.int b, .ref 34]) (w' := (SH, (xj_set S 32 0 0), T)) rfl ?_
                refine xj_E.iald rfl rfl hd.1 ?_
                have hd := hd.2
                refine xj_E.adv 5 (pc' := 121) (ls' := [(4, .int 1), (0, .ref 32), (1, .int a), (2, .int b), (3, .int c)]) (st' := [.int a, .ref 36, .ref 34, .int (S 34 b.toNatClampNeg)]) (w' := (SH, (xj_set S 32 0 0), T)) rfl ?_
                refine xj_E.iald rfl rfl hd.1 ?_
                have hd := hd.2
                refine xj_E.iald rfl rfl hd.1 ?_
                have hd := hd.2
                refine xj_E.adv 1 (pc' := (if xj_cmp .ne (S 34 b.toNatClampNeg) (S 34 (S 36 a.toNatClampNeg).toNatClampNeg) = true then 135 else 126)) (ls' := [(4, .int 1), (0, .ref 32), (1, .int a), (2, .int b), (3, .int c)]) (st' := []) (w' := (SH, (xj_set S 32 0 0), T)) rfl ?_
                refine xj_E.b_ne (fun q => ?_) (fun q => ?_)
                · have hd := hd.1 q
                  have h := fun v S9 e => h v S9 (Eq.trans e (if_pos q).symm)
                  refine xj_E.adv 2 (pc' := 137) (ls' := [(4, .int 1), (0, .ref 32), (1, .int a), (2, .int b), (3, .int c)]) (st' := [.int 2, .ref 32]) (w' := (SH, (xj_set S 32 0 0), T)) rfl ?_
                  refine xj_E.calli (d := D1) (S := SH) rfl rfl rfl rfl rfl (ok_m_fail (by omega) hd.1 ?_)
                  intro v11 S11 e11
                  refine ⟨_, _, _, rfl, rfl, rfl, rfl, ?_⟩
                  have hd := hd.2
                  rw [← e11] at hd h
                  exact xj_E.ret rfl rfl rfl rfl (h _ _ rfl)
                · have hd := hd.2 q
                  have h := fun v S9 e => h v S9 (Eq.trans e (if_neg q).symm)
                  refine xj_E.adv 2 (pc' := 129) (ls' := [(4, .int 1), (0, .ref 32), (1, .int a), (2, .int b), (3, .int c)]) (st' := [.int 9, .int c]) (w' := (SH, (xj_set S 32 0 0), T)) rfl ?_
                  refine xj_E.calli (d := D1) (S := SH) rfl rfl rfl rfl rfl (xj_E.deep (ok_m_within (d := 0) hd.1 ?_) (by omega))
                  intro v e
                  subst e
                  refine ⟨_, _, _, rfl, rfl, rfl, rfl, ?_⟩
                  have hd := hd.2
                  refine xj_E.adv 1 (pc' := (if xj_cmp .ne (r_m_within (xj_set S 32 0 0) c 9) 0 = true then 141 else 135)) (ls' := [(4, .int 1), (0, .ref 32), (1, .int a), (2, .int b), (3, .int c)]) (st' := []) (w' := (SH, (xj_set S 32 0 0), T)) rfl ?_
                  refine xj_E.b_ne (fun q => ?_) (fun q => ?_)
                  · have hd := hd.1 q
                    have h := fun v S9 e => h v S9 (Eq.trans e (if_pos q).symm)
                    refine xj_E.adv 6 (pc' := 149) (ls' := [(4, .int 1), (0, .ref 32), (1, .int a), (2, .int b), (3, .int c)]) (st' := [.int a, .ref 38, .int (2 * a)]) (w' := (SH, (xj_set S 32 0 0), T)) rfl ?_
                    refine xj_E.iald rfl rfl hd.1 ?_
                    have hd := hd.2
                    refine xj_E.adv 6 (pc' := 160) (ls' := [(5, .int ((2 * a) + (S 38 a.toNatClampNeg))), (4, .int 1), (0, .ref 32), (1, .int a), (2, .int b), (3, .int c)]) (st' := [.int b, .int ((2 * a) + (S 38 a.toNatClampNeg)), .ref 39]) (w' := (SH, (xj_set S 32 0 0), T)) rfl ?_
                    refine xj_E.iast rfl rfl hd.1 ?_
                    have hd := hd.2
                    refine xj_E.adv 4 (pc' := 168) (ls' := [(5, .int ((2 * a) + (S 38 a.toNatClampNeg))), (4, .int 1), (0, .ref 32), (1, .int a), (2, .int b), (3, .int c)]) (st' := [.int c, .int ((2 * a) + (S 38 a.toNatClampNeg)), .ref 40]) (w' := (SH, (xj_set (xj_set S 32 0 0) 39 ((2 * a) + (S 38 a.toNatClampNeg)).toNatClampNeg b), T)) rfl ?_
                    refine xj_E.iast rfl rfl hd.1 ?_
                    have hd := hd.2
                    refine xj_E.adv 4 (pc' := 175) (ls' := [(5, .int ((2 * a) + (S 38 a.toNatClampNeg))), (4, .int 1), (0, .ref 32), (1, .int a), (2, .int b), (3, .int c)]) (st' := [.int a, .ref 38, .int a, .ref 38]) (w' := (SH, (xj_set (xj_set (xj_set S 32 0 0) 39 ((2 * a) + (S 38 a.toNatClampNeg)).toNatClampNeg b) 40 ((2 * a) + (S 38 a.toNatClampNeg)).toNatClampNeg c), T)) rfl ?_
                    refine xj_E.iald rfl rfl hd.1 ?_
                    have hd := hd.2
                    refine xj_E.adv 2 (pc' := 178) (ls' := [(5, .int ((2 * a) + (S 38 a.toNatClampNeg))), (4, .int 1), (0, .ref 32), (1, .int a), (2, .int b), (3, .int c)]) (st' := [.int ((S 38 a.toNatClampNeg) + 1), .int a, .ref 38]) (w' := (SH, (xj_set (xj_set (xj_set S 32 0 0) 39 ((2 * a) + (S 38 a.toNatClampNeg)).toNatClampNeg b) 40 ((2 * a) + (S 38 a.toNatClampNeg)).toNatClampNeg c), T)) rfl ?_
                    refine xj_E.iast rfl rfl hd.1 ?_
                    have hd := hd.2
                    refine xj_E.adv 3 (pc' := 184) (ls' := [(5, .int ((2 * a) + (S 38 a.toNatClampNeg))), (4, .int 1), (0, .ref 32), (1, .int a), (2, .int b), (3, .int c)]) (st' := [.int a, .ref 38]) (w' := (SH, (xj_set (xj_set (xj_set (xj_set S 32 0 0) 39 ((2 * a) + (S 38 a.toNatClampNeg)).toNatClampNeg b) 40 ((2 * a) + (S 38 a.toNatClampNeg)).toNatClampNeg c) 38 a.toNatClampNeg ((S 38 a.toNatClampNeg) + 1)), T)) rfl ?_
                    refine xj_E.iald rfl rfl hd.1 ?_
                    have hd := hd.2
                    exact xj_E.ret rfl rfl rfl rfl (h _ _ rfl)
                  · have hd := hd.2 q
                    have h := fun v S9 e => h v S9 (Eq.trans e (if_neg q).symm)
                    refine xj_E.adv 2 (pc' := 137) (ls' := [(4, .int 1), (0, .ref 32), (1, .int a), (2, .int b), (3, .int c)]) (st' := [.int 2, .ref 32]) (w' := (SH, (xj_set S 32 0 0), T)) rfl ?_
                    refine xj_E.calli (d := D1) (S := SH) rfl rfl rfl rfl rfl (ok_m_fail (by omega) hd.1 ?_)
                    intro v12 S12 e12
                    refine ⟨_, _, _, rfl, rfl, rfl, rfl, ?_⟩
                    have hd := hd.2
                    rw [← e12] at hd h
                    exact xj_E.ret rfl rfl rfl rfl (h _ _ rfl)
        · have hd := hd.2 q
          have h := fun v S9 e => h v S9 (Eq.trans e (if_neg q).symm)
          refine xj_E.adv 2 (pc' := 46) (ls' := [(0, .ref 32), (1, .int a), (2, .int b), (3, .int c)]) (st' := [.int 2, .ref 32]) (w' := (SH, (xj_set S 32 0 0), T)) rfl ?_
          refine xj_E.calli (d := D1) (S := SH) rfl rfl rfl rfl rfl (ok_m_fail (by omega) hd.1 ?_)
          intro v13 S13 e13
          refine ⟨_, _, _, rfl, rfl, rfl, rfl, ?_⟩
          have hd := hd.2
          rw [← e13] at hd h
          exact xj_E.ret rfl rfl rfl rfl (h _ _ rfl)
      · have hd := hd.2 q
        have h := fun v S9 e => h v S9 (Eq.trans e (if_neg q).symm)
        refine xj_E.adv 2 (pc' := 32) (ls' := [(0, .ref 32), (1, .int a), (2, .int b), (3, .int c)]) (st' := [.int 1, .ref 32]) (w' := (SH, (xj_set S 32 0 0), T)) rfl ?_
        refine xj_E.calli (d := D1) (S := SH) rfl rfl rfl rfl rfl (ok_m_fail (by omega) hd.1 ?_)
        intro v14 S14 e14
        refine ⟨_, _, _, rfl, rfl, rfl, rfl, ?_⟩
        have hd := hd.2
        rw [← e14] at hd h
        exact xj_E.ret rfl rfl rfl rfl (h _ _ rfl)
set_option maxHeartbeats 4000000 in
set_option maxRecDepth 100000 in
theorem ok_m_when {L : Nat} {xs : Nat → Int32} {T : Nat → Nat → Int64} {D : Nat} {S : (Nat → Nat → Int32)} {P : (Option Value ⊕ Nat) → xj_W → Nat → Nat → Prop} {a b c d : Int32} (hD : 1 ≤ D) (hd : d_m_when a b c d S) (h : ∀ v S9, (v, S9) = f_m_when a b c d S → P (.inl none) (SH, S9, T) 0 0) : xj_E (xX L xs) D 75 0 [(0, .ref 32), (1, .int a), (2, .int b), (3, .int c), (4, .int d)] [] (SH, S, T) P := by
  unfold d_m_when at hd
  unfold f_m_when at h
  obtain ⟨D1, rfl⟩ : ∃ D1, D = D1 + 1 := ⟨D - 1, by omega⟩
  refine xj_E.adv 6 (pc' := (if xj_cmp .eq (S 32 15) 0 = true then 18 else 12)) (ls' := [(0, .ref 32), (1, .int a), (2, .int b), (3, .int c), (4, .int d)]) (st' := []) (w' := (SH, (xj_set S 32 0 0), T)) rfl ?_
  refine xj_E.b_eq (fun q => ?_) (fun q => ?_)
  · have hd := hd.1 q
    have h := fun v S9 e => h v S9 (Eq.trans e (if_pos q).symm)
    refine xj_E.adv 2 (pc' := 20) (ls' := [(0, .ref 32), (1, .int a), (2, .int b), (3, .int c), (4, .int d)]) (st' := [.int a, .ref 32]) (w' := (SH, (xj_set S 32 0 0), T)) rfl ?_
    refine xj_E.calli (d := D1) (S := SH) rfl rfl rfl rfl rfl (xj_E.deep (ok_m_isSentry (d := 0) hd.1 ?_) (by omega))
    intro v e
    subst e
    refine ⟨_, _, _, rfl, rfl, rfl, rfl, ?_⟩
    have hd := hd.2
    refine xj_E.adv 1 (pc' := (if xj_cmp .eq (r_m_isSentry (xj_set S 32 0 0) a) 0 = true then 42 else 26)) (ls' := [(0, .ref 32), (1, .int a), (2, .int b), (3, .int c), (4, .int d)]) (st' := []) (w' := (SH, (xj_set S 32 0 0), T)) rfl ?_
    refine xj_E.b_eq (fun q => ?_) (fun q => ?_)
    · have hd := hd.1 q
      have h := fun v S9 e => h v S9 (Eq.trans e (if_pos q).symm)
      refine xj_E.adv 3 (pc' := 47) (ls' := [(0, .ref 32), (1, .int a), (2, .int b), (3, .int c), (4, .int d)]) (st' := []) (w' := (SH, (xj_set (xj_set S 32 0 0) 32 0 2), T)) rfl ?_
      exact xj_E.ret rfl rfl rfl rfl (h _ _ rfl)
    · have hd := hd.2 q
      have h := fun v S9 e => h v S9 (Eq.trans e (if_neg q).symm)
      refine xj_E.adv 2 (pc' := 28) (ls' := [(0, .ref 32), (1, .int a), (2, .int b), (3, .int c), (4, .int d)]) (st' := [.int 3, .int b]) (w' := (SH, (xj_set S 32 0 0), T)) rfl ?_
      refine xj_E.calli (d := D1) (S := SH) rfl rfl rfl rfl rfl (xj_E.deep (ok_m_within (d := 0) hd.1 ?_) (by omega))
      intro v e
      subst e
      refine ⟨_, _, _, rfl, rfl, rfl, rfl, ?_⟩
      have hd := hd.2
      refine xj_E.adv 1 (pc' := (if xj_cmp .eq (r_m_within (xj_set S 32 0 0) b 3) 0 = true then 42 else 34)) (ls' := [(0, .ref 32), (1, .int a), (2, .int b), (3, .int c), (4, .int d)]) (st' := []) (w' := (SH, (xj_set S 32 0 0), T)) rfl ?_
      refine xj_E.b_eq (fun q => ?_) (fun q => ?_)
      · have hd := hd.1 q
        have h := fun v S9 e => h v S9 (Eq.trans e (if_pos q).symm)
        refine xj_E.adv 3 (pc' := 47) (ls' := [(0, .ref 32), (1, .int a), (2, .int b), (3, .int c), (4, .int d)]) (st' := []) (w' := (SH, (xj_set (xj_set S 32 0 0) 32 0 2), T)) rfl ?_
        exact xj_E.ret rfl rfl rfl rfl (h _ _ rfl)
      · have hd := hd.2 q
        have h := fun v S9 e => h v S9 (Eq.trans e (if_neg q).symm)
        refine xj_E.adv 2 (pc' := 36) (ls' := [(0, .ref 32), (1, .int a), (2, .int b), (3, .int c), (4, .int d)]) (st' := [.int 2, .int c]) (w' := (SH, (xj_set S 32 0 0), T)) rfl ?_
        refine xj_E.calli (d := D1) (S := SH) rfl rfl rfl rfl rfl (xj_E.deep (ok_m_within (d := 0) hd.1 ?_) (by omega))
        intro v e
        subst e
        refine ⟨_, _, _, rfl, rfl, rfl, rfl, ?_⟩
        have hd := hd.2
        refine xj_E.adv 1 (pc' := (if xj_cmp .ne (r_m_within (xj_set S 32 0 0) c 2) 0 = true then 48 else 42)) (ls' := [(0, .ref 32), (1, .int a), (2, .int b), (3, .int c), (4, .int d)]) (st' := []) (w' := (SH, (xj_set S 32 0 0), T)) rfl ?_
        refine xj_E.b_ne (fun q => ?_) (fun q => ?_)
        · have hd := hd.1 q
          have h := fun v S9 e => h v S9 (Eq.trans e (if_pos q).symm)
          refine xj_E.adv 4 (pc' := 54) (ls' := [(0, .ref 32), (1, .int a), (2, .int b), (3, .int c), (4, .int d)]) (st' := [.int 1, .int a, .ref 41]) (w' := (SH, (xj_set S 32 0 0), T)) rfl ?_
          refine xj_E.bast rfl rfl hd.1 ?_
          have hd := hd.2
          refine xj_E.adv 4 (pc' := 61) (ls' := [(0, .ref 32), (1, .int a), (2, .int b), (3, .int c), (4, .int d)]) (st' := [.int b, .int a, .ref 42]) (w' := (SH, (xj_set (xj_set S 32 0 0) 41 a.toNatClampNeg (1 &&& 1)), T)) rfl ?_
          refine xj_E.iast rfl rfl hd.1 ?_
          have hd := hd.2
          refine xj_E.adv 4 (pc' := 68) (ls' := [(0, .ref 32), (1, .int a), (2, .int b), (3, .int c), (4, .int d)]) (st' := [.int c, .int a, .ref 43]) (w' := (SH, (xj_set (xj_set (xj_set S 32 0 0) 41 a.toNatClampNeg (1 &&& 1)) 42 a.toNatClampNeg b), T)) rfl ?_
          refine xj_E.iast rfl rfl hd.1 ?_
          have hd := hd.2
          refine xj_E.adv 4 (pc' := 76) (ls' := [(0, .ref 32), (1, .int a), (2, .int b), (3, .int c), (4, .int d)]) (st' := [.int d, .int a, .ref 44]) (w' := (SH, (xj_set (xj_set (xj_set (xj_set S 32 0 0) 41 a.toNatClampNeg (1 &&& 1)) 42 a.toNatClampNeg b) 43 a.toNatClampNeg c), T)) rfl ?_
          refine xj_E.iast rfl rfl hd.1 ?_
          have hd := hd.2
          exact xj_E.ret rfl rfl rfl rfl (h _ _ rfl)
        · have hd := hd.2 q
          have h := fun v S9 e => h v S9 (Eq.trans e (if_neg q).symm)
          refine xj_E.adv 3 (pc' := 47) (ls' := [(0, .ref 32), (1, .int a), (2, .int b), (3, .int c), (4, .int d)]) (st' := []) (w' := (SH, (xj_set (xj_set S 32 0 0) 32 0 2), T)) rfl ?_
          exact xj_E.ret rfl rfl rfl rfl (h _ _ rfl)
  · have hd := hd.2 q
    have h := fun v S9 e => h v S9 (Eq.trans e (if_neg q).symm)
    refine xj_E.adv 3 (pc' := 17) (ls' := [(0, .ref 32), (1, .int a), (2, .int b), (3, .int c), (4, .int d)]) (st' := []) (w' := (SH, (xj_set (xj_set S 32 0 0) 32 0 1), T)) rfl ?_
    exact xj_E.ret rfl rfl rfl rfl (h _ _ rfl)
set_option maxHeartbeats 4000000 in
set_option maxRecDepth 100000 in
theorem ok_m_book {L : Nat} {xs : Nat → Int32} {T : Nat → Nat → Int64} {D : Nat} {S : (Nat → Nat → Int32)} {P : (Option Value ⊕ Nat) → xj_W → Nat → Nat → Prop} {a b : Int32} (hD : 0 ≤ D) (hd : d_m_book a b S) (h : ∀ v S9, (v, S9) = f_m_book a b S → P (.inl (some (.int v))) (SH, S9, T) 0 0) : xj_E (xX L xs) D 81 0 [(0, .ref 32), (1, .int a), (2, .int b)] [] (SH, S, T) P := by
  unfold d_m_book at hd
  unfold f_m_book at h
  refine xj_E.adv 5 (pc' := (if xj_cmp .ne (S 32 37) (S 32 16) = true then 18 else 11)) (ls' := [(0, .ref 32), (1, .int a), (2, .int b)]) (st' := []) (w' := (SH, S, T)) rfl ?_
  refine xj_E.b_ne (fun q => ?_) (fun q => ?_)
  · have hd := hd.1 q
    have h := fun v S9 e => h v S9 (Eq.trans e (if_pos q).symm)
    refine xj_E.adv 13 (pc' := 40) (ls' := [(0, .ref 32), (1, .int a), (2, .int b)]) (st' := [.int a, .int ((S 32 24) - (S 32 24) / 48 * 48), .ref 51]) (w' := (SH, (xj_set S 32 37 ((S 32 37) + 1)), T)) rfl ?_
    refine xj_E.iast rfl rfl hd.1 ?_
    have hd := hd.2
    refine xj_E.adv 7 (pc' := 53) (ls' := [(0, .ref 32), (1, .int a), (2, .int b)]) (st' := [.int b, .int ((S 32 24) - (S 32 24) / 48 * 48), .ref 52]) (w' := (SH, (xj_set (xj_set S 32 37 ((S 32 37) + 1)) 51 ((S 32 24) - (S 32 24) / 48 * 48).toNatClampNeg a), T)) rfl ?_
    refine xj_E.iast rfl rfl hd.1 ?_
    have hd := hd.2
    refine xj_E.adv 10 (pc' := 70) (ls' := [(0, .ref 32), (1, .int a), (2, .int b)]) (st' := [.int a, .ref 48, .int a, .ref 48]) (w' := (SH, (xj_set (xj_set (xj_set (xj_set S 32 37 ((S 32 37) + 1)) 51 ((S 32 24) - (S 32 24) / 48 * 48).toNatClampNeg a) 52 ((S 32 24) - (S 32 24) / 48 * 48).toNatClampNeg b) 32 24 ((S 32 24) + 1)), T)) rfl ?_
    refine xj_E.iald rfl rfl hd.1 ?_
    have hd := hd.2
    refine xj_E.adv 2 (pc' := 73) (ls' := [(0, .ref 32), (1, .int a), (2, .int b)]) (st' := [.int ((S 48 a.toNatClampNeg) + 1), .int a, .ref 48]) (w' := (SH, (xj_set (xj_set (xj_set (xj_set S 32 37 ((S 32 37) + 1)) 51 ((S 32 24) - (S 32 24) / 48 * 48).toNatClampNeg a) 52 ((S 32 24) - (S 32 24) / 48 * 48).toNatClampNeg b) 32 24 ((S 32 24) + 1)), T)) rfl ?_
    refine xj_E.iast rfl rfl hd.1 ?_
    have hd := hd.2
    refine xj_E.adv 1 (pc' := 75) (ls' := [(0, .ref 32), (1, .int a), (2, .int b)]) (st' := [.int 1]) (w' := (SH, (xj_set (xj_set (xj_set (xj_set (xj_set S 32 37 ((S 32 37) + 1)) 51 ((S 32 24) - (S 32 24) / 48 * 48).toNatClampNeg a) 52 ((S 32 24) - (S 32 24) / 48 * 48).toNatClampNeg b) 32 24 ((S 32 24) + 1)) 48 a.toNatClampNeg ((S 48 a.toNatClampNeg) + 1)), T)) rfl ?_
    exact xj_E.ret rfl rfl rfl rfl (h _ _ rfl)
  · have hd := hd.2 q
    have h := fun v S9 e => h v S9 (Eq.trans e (if_neg q).symm)
    refine xj_E.adv 4 (pc' := 17) (ls' := [(0, .ref 32), (1, .int a), (2, .int b)]) (st' := [.int 0]) (w' := (SH, (xj_set S 32 38 1), T)) rfl ?_
    exact xj_E.ret rfl rfl rfl rfl (h _ _ rfl)
