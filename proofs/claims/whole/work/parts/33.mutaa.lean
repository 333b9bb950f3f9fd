/-! methods that store: our machine does so -/
seal f_l_copyFrom14 d_l_copyFrom14 f_l_copyFrom23 d_l_copyFrom23 f_l_add d_l_add f_l_note d_l_note f_p_addItem d_p_addItem f_p_addSentry d_p_addSentry f_p_addPart d_p_addPart f_p_putIfPart d_p_putIfPart f_c_openCommand d_c_openCommand f_c_mark d_c_mark f_m_fail d_m_fail f_m_item d_m_item f_m_sentry d_m_sentry f_m_on d_m_on f_m_when d_m_when f_m_book d_m_book f_m_mark d_m_mark f_m_create d_m_create f_m_again d_m_again f_m_keep d_m_keep f_m_putBack d_m_putBack f_m_can d_m_can f_m_markVariable d_m_markVariable f_m_value d_m_value f_m_instances d_m_instances f_m_instance d_m_instance f_m_marked d_m_marked f_m_moves d_m_moves f_m_history d_m_history f_c_markSiblings d_c_markSiblings f_c_markAll d_c_markAll f_m_enter d_m_enter f_m_make d_m_make f_m_letIn d_m_letIn f_m_workOff d_m_workOff f_m_finish d_m_finish f_m_begin d_m_begin f_m_move d_m_move f_m_set d_m_set f_c_create d_c_create f_c_make d_c_make f_c_moveWhatIsIn d_c_moveWhatIsIn f_c_createWhatIsIn d_c_createWhatIsIn f_c_exitChildren d_c_exitChildren f_c_moveChildren d_c_moveChildren f_c_repeat d_c_repeat f_c_letIn d_c_letIn f_c_item d_c_item f_c_sentry d_c_sentry f_c_on d_c_on f_c_when d_c_when f_c_workOff d_c_workOff f_c_begin d_c_begin f_c_move d_c_move f_c_set d_c_set
set_option maxHeartbeats 4000000 in
set_option maxRecDepth 100000 in
theorem ok_l_copyFrom14 {L : Nat} {xs : Nat → Int32} {T : Nat → Nat → Int64} {D : Nat} {S : (Nat → Nat → Int32)} {P : (Option Value ⊕ Nat) → xj_W → Nat → Nat → Prop} (hD : 0 ≤ D) (hd : d_l_copyFrom14  S) (h : ∀ v S9, (v, S9) = f_l_copyFrom14  S → P (.inl none) (SH, S9, T) 0 0) : xj_E (xX L xs) D 9 0 [(0, .ref 14), (1, .ref 23)] [] (SH, S, T) P := by
  unfold d_l_copyFrom14 at hd
  unfold f_l_copyFrom14 at h
  refine xj_E.adv 16 (pc' := 31) (ls' := [(0, .ref 14), (1, .ref 23)]) (st' := []) (w' := (SH, (xj_setA (xj_set (xj_set S 14 0 (S 23 0)) 14 1 (S 23 1)) 15 (va_cpy (S 24) (S 15) 0 0 40)), T)) rfl ?_
  refine xj_E.adv 8 (pc' := 46) (ls' := [(0, .ref 14), (1, .ref 23)]) (st' := []) (w' := (SH, (xj_setA (xj_setA (xj_set (xj_set S 14 0 (S 23 0)) 14 1 (S 23 1)) 15 (va_cpy (S 24) (S 15) 0 0 40)) 16 (va_cpy (S 25) (S 16) 0 0 40)), T)) rfl ?_
  refine xj_E.adv 8 (pc' := 61) (ls' := [(0, .ref 14), (1, .ref 23)]) (st' := []) (w' := (SH, (xj_setA (xj_setA (xj_setA (xj_set (xj_set S 14 0 (S 23 0)) 14 1 (S 23 1)) 15 (va_cpy (S 24) (S 15) 0 0 40)) 16 (va_cpy (S 25) (S 16) 0 0 40)) 17 (va_cpy (S 26) (S 17) 0 0 40)), T)) rfl ?_
  refine xj_E.adv 8 (pc' := 76) (ls' := [(0, .ref 14), (1, .ref 23)]) (st' := []) (w' := (SH, (xj_setA (xj_setA (xj_setA (xj_setA (xj_set (xj_set S 14 0 (S 23 0)) 14 1 (S 23 1)) 15 (va_cpy (S 24) (S 15) 0 0 40)) 16 (va_cpy (S 25) (S 16) 0 0 40)) 17 (va_cpy (S 26) (S 17) 0 0 40)) 18 (va_cpy (S 27) (S 18) 0 0 40)), T)) rfl ?_
  refine xj_E.adv 8 (pc' := 91) (ls' := [(0, .ref 14), (1, .ref 23)]) (st' := []) (w' := (SH, (xj_setA (xj_setA (xj_setA (xj_setA (xj_setA (xj_set (xj_set S 14 0 (S 23 0)) 14 1 (S 23 1)) 15 (va_cpy (S 24) (S 15) 0 0 40)) 16 (va_cpy (S 25) (S 16) 0 0 40)) 17 (va_cpy (S 26) (S 17) 0 0 40)) 18 (va_cpy (S 27) (S 18) 0 0 40)) 19 (va_cpy (S 28) (S 19) 0 0 40)), T)) rfl ?_
  refine xj_E.adv 8 (pc' := 105) (ls' := [(0, .ref 14), (1, .ref 23)]) (st' := []) (w' := (SH, (xj_setA (xj_setA (xj_setA (xj_setA (xj_setA (xj_setA (xj_set (xj_set S 14 0 (S 23 0)) 14 1 (S 23 1)) 15 (va_cpy (S 24) (S 15) 0 0 40)) 16 (va_cpy (S 25) (S 16) 0 0 40)) 17 (va_cpy (S 26) (S 17) 0 0 40)) 18 (va_cpy (S 27) (S 18) 0 0 40)) 19 (va_cpy (S 28) (S 19) 0 0 40)) 20 (va_cpy (S 29) (S 20) 0 0 4)), T)) rfl ?_
  refine xj_E.adv 12 (pc' := 128) (ls' := [(0, .ref 14), (1, .ref 23)]) (st' := []) (w' := (SH, (xj_setA (xj_set (xj_setA (xj_setA (xj_setA (xj_setA (xj_setA (xj_setA (xj_set (xj_set S 14 0 (S 23 0)) 14 1 (S 23 1)) 15 (va_cpy (S 24) (S 15) 0 0 40)) 16 (va_cpy (S 25) (S 16) 0 0 40)) 17 (va_cpy (S 26) (S 17) 0 0 40)) 18 (va_cpy (S 27) (S 18) 0 0 40)) 19 (va_cpy (S 28) (S 19) 0 0 40)) 20 (va_cpy (S 29) (S 20) 0 0 4)) 14 8 (S 23 8)) 21 (va_cpy (S 30) (S 21) 0 0 48)), T)) rfl ?_
  refine xj_E.adv 8 (pc' := 143) (ls' := [(0, .ref 14), (1, .ref 23)]) (st' := []) (w' := (SH, (xj_setA (xj_setA (xj_set (xj_setA (xj_setA (xj_setA (xj_setA (xj_setA (xj_setA (xj_set (xj_set S 14 0 (S 23 0)) 14 1 (S 23 1)) 15 (va_cpy (S 24) (S 15) 0 0 40)) 16 (va_cpy (S 25) (S 16) 0 0 40)) 17 (va_cpy (S 26) (S 17) 0 0 40)) 18 (va_cpy (S 27) (S 18) 0 0 40)) 19 (va_cpy (S 28) (S 19) 0 0 40)) 20 (va_cpy (S 29) (S 20) 0 0 4)) 14 8 (S 23 8)) 21 (va_cpy (S 30) (S 21) 0 0 48)) 22 (va_cpy (S 31) (S 22) 0 0 48)), T)) rfl ?_
  exact xj_E.ret rfl rfl rfl rfl (h _ _ rfl)
set_option maxHeartbeats 4000000 in
set_option maxRecDepth 100000 in
theorem ok_l_copyFrom23 {L : Nat} {xs : Nat → Int32} {T : Nat → Nat → Int64} {D : Nat} {S : (Nat → Nat → Int32)} {P : (Option Value ⊕ Nat) → xj_W → Nat → Nat → Prop} (hD : 0 ≤ D) (hd : d_l_copyFrom23  S) (h : ∀ v S9, (v, S9) = f_l_copyFrom23  S → P (.inl none) (SH, S9, T) 0 0) : xj_E (xX L xs) D 9 0 [(0, .ref 23), (1, .ref 14)] [] (SH, S, T) P := by
  unfold d_l_copyFrom23 at hd
  unfold f_l_copyFrom23 at h
  refine xj_E.adv 16 (pc' := 31) (ls' := [(0, .ref 23), (1, .ref 14)]) (st' := []) (w' := (SH, (xj_setA (xj_set (xj_set S 23 0 (S 14 0)) 23 1 (S 14 1)) 24 (va_cpy (S 15) (S 24) 0 0 40)), T)) rfl ?_
  refine xj_E.adv 8 (pc' := 46) (ls' := [(0, .ref 23), (1, .ref 14)]) (st' := []) (w' := (SH, (xj_setA (xj_setA (xj_set (xj_set S 23 0 (S 14 0)) 23 1 (S 14 1)) 24 (va_cpy (S 15) (S 24) 0 0 40)) 25 (va_cpy (S 16) (S 25) 0 0 40)), T)) rfl ?_
  refine xj_E.adv 8 (pc' := 61) (ls' := [(0, .ref 23), (1, .ref 14)]) (st' := []) (w' := (SH, (xj_setA (xj_setA (xj_setA (xj_set (xj_set S 23 0 (S 14 0)) 23 1 (S 14 1)) 24 (va_cpy (S 15) (S 24) 0 0 40)) 25 (va_cpy (S 16) (S 25) 0 0 40)) 26 (va_cpy (S 17) (S 26) 0 0 40)), T)) rfl ?_
  refine xj_E.adv 8 (pc' := 76) (ls' := [(0, .ref 23), (1, .ref 14)]) (st' := []) (w' := (SH, (xj_setA (xj_setA (xj_setA (xj_setA (xj_set (xj_set S 23 0 (S 14 0)) 23 1 (S 14 1)) 24 (va_cpy (S 15) (S 24) 0 0 40)) 25 (va_cpy (S 16) (S 25) 0 0 40)) 26 (va_cpy (S 17) (S 26) 0 0 40)) 27 (va_cpy (S 18) (S 27) 0 0 40)), T)) rfl ?_
  refine xj_E.adv 8 (pc' := 91) (ls' := [(0, .ref 23), (1, .ref 14)]) (st' := []) (w' := (SH, (xj_setA (xj_setA (xj_setA (xj_setA (xj_setA (xj_set (xj_set S 23 0 (S 14 0)) 23 1 (S 14 1)) 24 (va_cpy (S 15) (S 24) 0 0 40)) 25 (va_cpy (S 16) (S 25) 0 0 40)) 26 (va_cpy (S 17) (S 26) 0 0 40)) 27 (va_cpy (S 18) (S 27) 0 0 40)) 28 (va_cpy (S 19) (S 28) 0 0 40)), T)) rfl ?_
  refine xj_E.adv 8 (pc' := 105) (ls' := [(0, .ref 23), (1, .ref 14)]) (st' := []) (w' := (SH, (xj_setA (xj_setA (xj_setA (xj_setA (xj_setA (xj_setA (xj_set (xj_set S 23 0 (S 14 0)) 23 1 (S 14 1)) 24 (va_cpy (S 15) (S 24) 0 0 40)) 25 (va_cpy (S 16) (S 25) 0 0 40)) 26 (va_cpy (S 17) (S 26) 0 0 40)) 27 (va_cpy (S 18) (S 27) 0 0 40)) 28 (va_cpy (S 19) (S 28) 0 0 40)) 29 (va_cpy (S 20) (S 29) 0 0 4)), T)) rfl ?_
  refine xj_E.adv 12 (pc' := 128) (ls' := [(0, .ref 23), (1, .ref 14)]) (st' := []) (w' := (SH, (xj_setA (xj_set (xj_setA (xj_setA (xj_setA (xj_setA (xj_setA (xj_setA (xj_set (xj_set S 23 0 (S 14 0)) 23 1 (S 14 1)) 24 (va_cpy (S 15) (S 24) 0 0 40)) 25 (va_cpy (S 16) (S 25) 0 0 40)) 26 (va_cpy (S 17) (S 26) 0 0 40)) 27 (va_cpy (S 18) (S 27) 0 0 40)) 28 (va_cpy (S 19) (S 28) 0 0 40)) 29 (va_cpy (S 20) (S 29) 0 0 4)) 23 8 (S 14 8)) 30 (va_cpy (S 21) (S 30) 0 0 48)), T)) rfl ?_
  refine xj_E.adv 8 (pc' := 143) (ls' := [(0, .ref 23), (1, .ref 14)]) (st' := []) (w' := (SH, (xj_setA (xj_setA (xj_set (xj_setA (xj_setA (xj_setA (xj_setA (xj_setA (xj_setA (xj_set (xj_set S 23 0 (S 14 0)) 23 1 (S 14 1)) 24 (va_cpy (S 15) (S 24) 0 0 40)) 25 (va_cpy (S 16) (S 25) 0 0 40)) 26 (va_cpy (S 17) (S 26) 0 0 40)) 27 (va_cpy (S 18) (S 27) 0 0 40)) 28 (va_cpy (S 19) (S 28) 0 0 40)) 29 (va_cpy (S 20) (S 29) 0 0 4)) 23 8 (S 14 8)) 30 (va_cpy (S 21) (S 30) 0 0 48)) 31 (va_cpy (S 22) (S 31) 0 0 48)), T)) rfl ?_
  exact xj_E.ret rfl rfl rfl rfl (h _ _ rfl)
set_option maxHeartbeats 4000000 in
set_option maxRecDepth 100000 in
theorem ok_l_add {L : Nat} {xs : Nat → Int32} {T : Nat → Nat → Int64} {D : Nat} {S : (Nat → Nat → Int32)} {P : (Option Value ⊕ Nat) → xj_W → Nat → Nat → Prop} {a b : Int32} (hD : 0 ≤ D) (hd : d_l_add a b S) (h : ∀ v S9, (v, S9) = f_l_add a b S → P (.inl (some (.int v))) (SH, S9, T) 0 0) : xj_E (xX L xs) D 7 0 [(0, .ref 14), (1, .int a), (2, .int b)] [] (SH, S, T) P := by
  unfold d_l_add at hd
  unfold f_l_add at h
  refine xj_E.adv 5 (pc' := 9) (ls' := [(0, .ref 14), (1, .int a), (2, .int b)]) (st' := [.int a, .int (S 14 1), .ref 15]) (w' := (SH, S, T)) rfl ?_
  refine xj_E.iast rfl rfl hd.1 ?_
  have hd := hd.2
  refine xj_E.adv 5 (pc' := 19) (ls' := [(0, .ref 14), (1, .int a), (2, .int b)]) (st' := [.int b, .int (S 14 1), .ref 16]) (w' := (SH, (xj_set S 15 (S 14 1).toNatClampNeg a), T)) rfl ?_
  refine xj_E.iast rfl rfl hd.1 ?_
  have hd := hd.2
  refine xj_E.adv 10 (pc' := 36) (ls' := [(0, .ref 14), (1, .int a), (2, .int b)]) (st' := [.int (((S 14 1) + 1) - 1)]) (w' := (SH, (xj_set (xj_set (xj_set S 15 (S 14 1).toNatClampNeg a) 16 (S 14 1).toNatClampNeg b) 14 1 ((S 14 1) + 1)), T)) rfl ?_
  exact xj_E.ret rfl rfl rfl rfl (h _ _ rfl)
set_option maxHeartbeats 4000000 in
set_option maxRecDepth 100000 in
theorem ok_l_note {L : Nat} {xs : Nat → Int32} {T : Nat → Nat → Int64} {D : Nat} {S : (Nat → Nat → Int32)} {P : (Option Value ⊕ Nat) → xj_W → Nat → Nat → Prop} {a b : Int32} (hD : 1 ≤ D) (hd : d_l_note a b S) (h : ∀ v S9, (v, S9) = f_l_note a b S → P (.inl none) (SH, S9, T) 0 0) : xj_E (xX L xs) D 8 0 [(0, .ref 14), (1, .int a), (2, .int b)] [] (SH, S, T) P := by
  unfold d_l_note at hd
  unfold f_l_note at h
  obtain ⟨D1, rfl⟩ : ∃ D1, D = D1 + 1 := ⟨D - 1, by omega⟩
  refine xj_E.adv 3 (pc' := 6) (ls' := [(0, .ref 14), (1, .int a), (2, .int b)]) (st' := [.int 48, .int (S 14 8)]) (w' := (SH, S, T)) rfl ?_
  refine xj_E.calli (d := D1) (S := SH) rfl rfl rfl rfl rfl (xj_E.deep (ok_f_floorMod (d := 0) hd.1 ?_) (by omega))
  intro v e
  subst e
  refine ⟨_, _, _, rfl, rfl, rfl, rfl, ?_⟩
  have hd := hd.2
  refine xj_E.adv 6 (pc' := 19) (ls' := [(3, .int (r_f_floorMod S (S 14 8) 48)), (0, .ref 14), (1, .int a), (2, .int b)]) (st' := [.int b, .ref 1001, .int a, .ref 17]) (w' := (SH, S, T)) rfl ?_
  refine xj_E.igiv rfl rfl rfl hd.1 ?_
  have hd := hd.2
  refine xj_E.iast rfl rfl hd.1 ?_
  have hd := hd.2
  refine xj_E.adv 4 (pc' := 27) (ls' := [(3, .int (r_f_floorMod S (S 14 8) 48)), (0, .ref 14), (1, .int a), (2, .int b)]) (st' := [.int a, .ref 18, .int a, .ref 18]) (w' := (SH, (xj_set S 17 a.toNatClampNeg (xst b.toNatClampNeg)), T)) rfl ?_
  refine xj_E.iald rfl rfl hd.1 ?_
  have hd := hd.2
  refine xj_E.adv 2 (pc' := 30) (ls' := [(3, .int (r_f_floorMod S (S 14 8) 48)), (0, .ref 14), (1, .int a), (2, .int b)]) (st' := [.int ((S 18 a.toNatClampNeg) + 1), .int a, .ref 18]) (w' := (SH, (xj_set S 17 a.toNatClampNeg (xst b.toNatClampNeg)), T)) rfl ?_
  refine xj_E.iast rfl rfl hd.1 ?_
  have hd := hd.2
  refine xj_E.adv 4 (pc' := 37) (ls' := [(3, .int (r_f_floorMod S (S 14 8) 48)), (0, .ref 14), (1, .int a), (2, .int b)]) (st' := [.int a, .int (r_f_floorMod S (S 14 8) 48), .ref 21]) (w' := (SH, (xj_set (xj_set S 17 a.toNatClampNeg (xst b.toNatClampNeg)) 18 a.toNatClampNeg ((S 18 a.toNatClampNeg) + 1)), T)) rfl ?_
  refine xj_E.iast rfl rfl hd.1 ?_
  have hd := hd.2
  refine xj_E.adv 4 (pc' := 44) (ls' := [(3, .int (r_f_floorMod S (S 14 8) 48)), (0, .ref 14), (1, .int a), (2, .int b)]) (st' := [.int b, .int (r_f_floorMod S (S 14 8) 48), .ref 22]) (w' := (SH, (xj_set (xj_set (xj_set S 17 a.toNatClampNeg (xst b.toNatClampNeg)) 18 a.toNatClampNeg ((S 18 a.toNatClampNeg) + 1)) 21 (r_f_floorMod S (S 14 8) 48).toNatClampNeg a), T)) rfl ?_
  refine xj_E.iast rfl rfl hd.1 ?_
  have hd := hd.2
  refine xj_E.adv 6 (pc' := 55) (ls' := [(3, .int (r_f_floorMod S (S 14 8) 48)), (0, .ref 14), (1, .int a), (2, .int b)]) (st' := []) (w' := (SH, (xj_set (xj_set (xj_set (xj_set (xj_set S 17 a.toNatClampNeg (xst b.toNatClampNeg)) 18 a.toNatClampNeg ((S 18 a.toNatClampNeg) + 1)) 21 (r_f_floorMod S (S 14 8) 48).toNatClampNeg a) 22 (r_f_floorMod S (S 14 8) 48).toNatClampNeg b) 14 8 ((S 14 8) + 1)), T)) rfl ?_
  exact xj_E.ret rfl rfl rfl rfl (h _ _ rfl)
set_option maxHeartbeats 4000000 in
set_option maxRecDepth 100000 in
theorem ok_p_addItem {L : Nat} {xs : Nat → Int32} {T : Nat → Nat → Int64} {D : Nat} {S : (Nat → Nat → Int32)} {P : (Option Value ⊕ Nat) → xj_W → Nat → Nat → Prop} {a b c : Int32} (hD : 0 ≤ D) (hd : d_p_addItem a b c S) (h : ∀ v S9, (v, S9) = f_p_addItem a b c S → P (.inl (some (.int v))) (SH, S9, T) 0 0) : xj_E (xX L xs) D 16 0 [(0, .ref 1), (1, .int a), (2, .int b), (3, .int c)] [] (SH, S, T) P := by
  unfold d_p_addItem at hd
  unfold f_p_addItem at h
  refine xj_E.adv 5 (pc' := 9) (ls' := [(0, .ref 1), (1, .int a), (2, .int b), (3, .int c)]) (st' := [.int a, .int (S 1 0), .ref 2]) (w' := (SH, S, T)) rfl ?_
  refine xj_E.iast rfl rfl hd.1 ?_
  have hd := hd.2
  refine xj_E.adv 5 (pc' := 19) (ls' := [(0, .ref 1), (1, .int a), (2, .int b), (3, .int c)]) (st' := [.int b, .int (S 1 0), .ref 3]) (w' := (SH, (xj_set S 2 (S 1 0).toNatClampNeg a), T)) rfl ?_
  refine xj_E.iast rfl rfl hd.1 ?_
  have hd := hd.2
  refine xj_E.adv 5 (pc' := 29) (ls' := [(0, .ref 1), (1, .int a), (2, .int b), (3, .int c)]) (st' := [.int c, .int (S 1 0), .ref 4]) (w' := (SH, (xj_set (xj_set S 2 (S 1 0).toNatClampNeg a) 3 (S 1 0).toNatClampNeg b), T)) rfl ?_
  refine xj_E.iast rfl rfl hd.1 ?_
  have hd := hd.2
  refine xj_E.adv 10 (pc' := 46) (ls' := [(0, .ref 1), (1, .int a), (2, .int b), (3, .int c)]) (st' := [.int (((S 1 0) + 1) - 1)]) (w' := (SH, (xj_set (xj_set (xj_set (xj_set S 2 (S 1 0).toNatClampNeg a) 3 (S 1 0).toNatClampNeg b) 4 (S 1 0).toNatClampNeg c) 1 0 ((S 1 0) + 1)), T)) rfl ?_
  exact xj_E.ret rfl rfl rfl rfl (h _ _ rfl)
set_option maxHeartbeats 4000000 in
set_option maxRecDepth 100000 in
theorem okk_p_addSentry {L : Nat} {xs : Nat → Int32} {T : Nat → Nat → Int64} (n : Nat) : (∀ (u1 : Int32) (u3 : Int32) (u4 : Int32) S D (P : (Option Value ⊕ Nat) → xj_W → Nat → Nat → Prop), 1 ≤ D → dk_p_addSentry n u1 u3 u4 S → (∀ v S9, (v, S9) = fk_p_addSentry n u1 u3 u4 S → P (.inl (some (.int v))) (SH, S9, T) 0 0) → xj_E (xX L xs) D 18 29 [(0, .ref 1), (1, .int u1), (3, .int u3), (4, .int u4)] [] (SH, S, T) P) := by
  induction n with
  | zero => exact fun _ _ _ _ _ _ _ hd _ => hd.elim
  | succ n ih =>
    refine ?_
    · intro u1 u3 u4 S D P hD hd h
      obtain ⟨D1, rfl⟩ : ∃ D1, D = D1 + 1 := ⟨D - 1, by omega⟩
      refine xj_E.adv 3 (pc' := (if xj_cmp .ge u4 2 = true then 56 else 35)) (ls' := [(0, .ref 1), (1, .int u1), (3, .int u3), (4, .int u4)]) (st' := []) (w' := (SH, S, T)) rfl ?_
      refine xj_E.b_ge (fun q => ?_) (fun q => ?_)
      · have hd := hd.1 q
        have h := fun v S9 e => h v S9 (Eq.trans e (if_pos q).symm)
        refine xj_E.adv 7 (pc' := 67) (ls' := [(0, .ref 1), (1, .int u1), (3, .int u3), (4, .int u4)]) (st' := [.int u3]) (w' := (SH, (xj_set S 1 5 ((S 1 5) + 1)), T)) rfl ?_
        exact xj_E.ret rfl rfl rfl rfl (h _ _ rfl)
      · have hd := hd.2 q
        have h := fun v S9 e => h v S9 (Eq.trans e (if_neg q).symm)
        refine xj_E.adv 4 (pc' := 41) (ls' := [(0, .ref 1), (1, .int u1), (3, .int u3), (4, .int u4)]) (st' := [.int u1, .ref 5, .int u1, .ref 5]) (w' := (SH, S, T)) rfl ?_
        refine xj_E.iald rfl rfl hd.1 ?_
        have hd := hd.2
        refine xj_E.adv 2 (pc' := 45) (ls' := [(0, .ref 1), (1, .int u1), (3, .int u3), (4, .int u4)]) (st' := [.int u4, .int u3, .int (S 5 u1.toNatClampNeg), .int u1, .ref 5]) (w' := (SH, S, T)) rfl ?_
        refine xj_E.calli (d := D1) (S := SH) rfl rfl rfl rfl rfl (xj_E.deep (ok_p_partBit (d := 0) hd.1 ?_) (by omega))
        intro v e
        subst e
        refine ⟨_, _, _, rfl, rfl, rfl, rfl, ?_⟩
        have hd := hd.2
        refine xj_E.adv 1 (pc' := 49) (ls' := [(0, .ref 1), (1, .int u1), (3, .int u3), (4, .int u4)]) (st' := [.int ((S 5 u1.toNatClampNeg) ||| (r_p_partBit S u3 u4)), .int u1, .ref 5]) (w' := (SH, S, T)) rfl ?_
        refine xj_E.iast rfl rfl hd.1 ?_
        have hd := hd.2
        refine xj_E.adv 2 (pc' := 29) (ls' := [(4, .int (u4 + 1)), (0, .ref 1), (1, .int u1), (3, .int u3)]) (st' := []) (w' := (SH, (xj_set S 5 u1.toNatClampNeg ((S 5 u1.toNatClampNeg) ||| (r_p_partBit S u3 u4))), T)) rfl ?_
        refine xj_E.loc [0, 1, 3, 4] xhth rfl (show xj_E (xX L xs) (D1 + 1) 18 29 [(0, .ref 1), (1, .int u1), (3, .int u3), (4, .int (u4 + 1))] [] (SH, (xj_set S 5 u1.toNatClampNeg ((S 5 u1.toNatClampNeg) ||| (r_p_partBit S u3 u4))), T) P from ?_)
        exact (ih) _ _ _ _ _ _ (by omega) hd h
set_option maxHeartbeats 4000000 in
set_option maxRecDepth 100000 in
theorem ok_p_addSentry {L : Nat} {xs : Nat → Int32} {T : Nat → Nat → Int64} {D : Nat} {S : (Nat → Nat → Int32)} {P : (Option Value ⊕ Nat) → xj_W → Nat → Nat → Prop} {a b : Int32} (hD : 1 ≤ D) (hd : d_p_addSentry a b S) (h : ∀ v S9, (v, S9) = f_p_addSentry a b S → P (.inl (some (.int v))) (SH, S9, T) 0 0) : xj_E (xX L xs) D 18 0 [(0, .ref 1), (1, .int a), (2, .int b)] [] (SH, S, T) P := by
  unfold d_p_addSentry at hd
  unfold f_p_addSentry at h
  refine xj_E.adv 7 (pc' := 11) (ls' := [(3, .int (S 1 5)), (0, .ref 1), (1, .int a), (2, .int b)]) (st' := [.int a, .int (S 1 5), .ref 6]) (w' := (SH, S, T)) rfl ?_
  refine xj_E.iast rfl rfl hd.1 ?_
  have hd := hd.2
  refine xj_E.adv 4 (pc' := 18) (ls' := [(3, .int (S 1 5)), (0, .ref 1), (1, .int a), (2, .int b)]) (st' := [.int b, .int (S 1 5), .ref 7]) (w' := (SH, (xj_set S 6 (S 1 5).toNatClampNeg a), T)) rfl ?_
  refine xj_E.bast rfl rfl hd.1 ?_
  have hd := hd.2
  refine xj_E.adv 4 (pc' := 25) (ls' := [(3, .int (S 1 5)), (0, .ref 1), (1, .int a), (2, .int b)]) (st' := [.int (-1), .int (S 1 5), .ref 11]) (w' := (SH, (xj_set (xj_set S 6 (S 1 5).toNatClampNeg a) 7 (S 1 5).toNatClampNeg (b &&& 1)), T)) rfl ?_
  refine xj_E.iast rfl rfl hd.1 ?_
  have hd := hd.2
  refine xj_E.adv 2 (pc' := 29) (ls' := [(4, .int 0), (3, .int (S 1 5)), (0, .ref 1), (1, .int a), (2, .int b)]) (st' := []) (w' := (SH, (xj_set (xj_set (xj_set S 6 (S 1 5).toNatClampNeg a) 7 (S 1 5).toNatClampNeg (b &&& 1)) 11 (S 1 5).toNatClampNeg (-1)), T)) rfl ?_
  refine xj_E.loc [0, 1, 3, 4] xhth rfl (show xj_E (xX L xs) D 18 29 [(0, .ref 1), (1, .int a), (3, .int (S 1 5)), (4, .int 0)] [] (SH, (xj_set (xj_set (xj_set S 6 (S 1 5).toNatClampNeg a) 7 (S 1 5).toNatClampNeg (b &&& 1)) 11 (S 1 5).toNatClampNeg (-1)), T) P from ?_)
  exact ((okk_p_addSentry 200)) _ _ _ _ _ _ (by omega) hd h
set_option maxHeartbeats 4000000 in
set_option maxRecDepth 100000 in
theorem ok_p_addPart {L : Nat} {xs : Nat → Int32} {T : Nat → Nat → Int64} {D : Nat} {S : (Nat → Nat → Int32)} {P : (Option Value ⊕ Nat) → xj_W → Nat → Nat → Prop} {a b c : Int32} (hD : 0 ≤ D) (hd : d_p_addPart a b c S) (h : ∀ v S9, (v, S9) = f_p_addPart a b c S → P (.inl (some (.int v))) (SH, S9, T) 0 0) : xj_E (xX L xs) D 22 0 [(0, .ref 1), (1, .int a), (2, .int b), (3, .int c)] [] (SH, S, T) P := by
  unfold d_p_addPart at hd
  unfold f_p_addPart at h
  refine xj_E.adv 6 (pc' := 8) (ls' := [(0, .ref 1), (1, .int a), (2, .int b), (3, .int c)]) (st' := [.int a, .ref 8, .int (a * 2)]) (w' := (SH, S, T)) rfl ?_
  refine xj_E.iald rfl rfl hd.1 ?_
  have hd := hd.2
  refine xj_E.adv 6 (pc' := 19) (ls' := [(4, .int ((a * 2) + (S 8 a.toNatClampNeg))), (0, .ref 1), (1, .int a), (2, .int b), (3, .int c)]) (st' := [.int b, .int ((a * 2) + (S 8 a.toNatClampNeg)), .ref 9]) (w' := (SH, S, T)) rfl ?_
  refine xj_E.iast rfl rfl hd.1 ?_
  have hd := hd.2
  refine xj_E.adv 6 (pc' := (if xj_cmp .lt b 100 = true then 36 else 32)) (ls' := [(4, .int ((a * 2) + (S 8 a.toNatClampNeg))), (0, .ref 1), (1, .int a), (2, .int b), (3, .int c)]) (st' := [.int ((a * 2) + (S 8 a.toNatClampNeg)), .ref 10]) (w' := (SH, (xj_set S 9 ((a * 2) + (S 8 a.toNatClampNeg)).toNatClampNeg b), T)) rfl ?_
  refine xj_E.b_lt (fun q => ?_) (fun q => ?_)
  · have hd := hd.1 q
    have h := fun v S9 e => h v S9 (Eq.trans e (if_pos q).symm)
    refine xj_E.adv 1 (pc' := 37) (ls' := [(4, .int ((a * 2) + (S 8 a.toNatClampNeg))), (0, .ref 1), (1, .int a), (2, .int b), (3, .int c)]) (st' := [.int c, .int ((a * 2) + (S 8 a.toNatClampNeg)), .ref 10]) (w' := (SH, (xj_set S 9 ((a * 2) + (S 8 a.toNatClampNeg)).toNatClampNeg b), T)) rfl ?_
    refine xj_E.iast rfl rfl hd.1 ?_
    have hd := hd.2
    refine xj_E.adv 4 (pc' := 44) (ls' := [(4, .int ((a * 2) + (S 8 a.toNatClampNeg))), (0, .ref 1), (1, .int a), (2, .int b), (3, .int c)]) (st' := [.int a, .ref 8, .int a, .ref 8]) (w' := (SH, (xj_set (xj_set S 9 ((a * 2) + (S 8 a.toNatClampNeg)).toNatClampNeg b) 10 ((a * 2) + (S 8 a.toNatClampNeg)).toNatClampNeg c), T)) rfl ?_
    refine xj_E.iald rfl rfl hd.1 ?_
    have hd := hd.2
    refine xj_E.adv 2 (pc' := 47) (ls' := [(4, .int ((a * 2) + (S 8 a.toNatClampNeg))), (0, .ref 1), (1, .int a), (2, .int b), (3, .int c)]) (st' := [.int ((S 8 a.toNatClampNeg) + 1), .int a, .ref 8]) (w' := (SH, (xj_set (xj_set S 9 ((a * 2) + (S 8 a.toNatClampNeg)).toNatClampNeg b) 10 ((a * 2) + (S 8 a.toNatClampNeg)).toNatClampNeg c), T)) rfl ?_
    refine xj_E.iast rfl rfl hd.1 ?_
    have hd := hd.2
    refine xj_E.adv 3 (pc' := 53) (ls' := [(4, .int ((a * 2) + (S 8 a.toNatClampNeg))), (0, .ref 1), (1, .int a), (2, .int b), (3, .int c)]) (st' := [.int a, .ref 8]) (w' := (SH, (xj_set (xj_set (xj_set S 9 ((a * 2) + (S 8 a.toNatClampNeg)).toNatClampNeg b) 10 ((a * 2) + (S 8 a.toNatClampNeg)).toNatClampNeg c) 8 a.toNatClampNeg ((S 8 a.toNatClampNeg) + 1)), T)) rfl ?_
    refine xj_E.iald rfl rfl hd.1 ?_
    have hd := hd.2
    exact xj_E.ret rfl rfl rfl rfl (h _ _ rfl)
  · have hd := hd.2 q
    have h := fun v S9 e => h v S9 (Eq.trans e (if_neg q).symm)
    refine xj_E.adv 2 (pc' := 37) (ls' := [(4, .int ((a * 2) + (S 8 a.toNatClampNeg))), (0, .ref 1), (1, .int a), (2, .int b), (3, .int c)]) (st' := [.int (-1), .int ((a * 2) + (S 8 a.toNatClampNeg)), .ref 10]) (w' := (SH, (xj_set S 9 ((a * 2) + (S 8 a.toNatClampNeg)).toNatClampNeg b), T)) rfl ?_
    refine xj_E.iast rfl rfl hd.1 ?_
    have hd := hd.2
    refine xj_E.adv 4 (pc' := 44) (ls' := [(4, .int ((a * 2) + (S 8 a.toNatClampNeg))), (0, .ref 1), (1, .int a), (2, .int b), (3, .int c)]) (st' := [.int a, .ref 8, .int a, .ref 8]) (w' := (SH, (xj_set (xj_set S 9 ((a * 2) + (S 8 a.toNatClampNeg)).toNatClampNeg b) 10 ((a * 2) + (S 8 a.toNatClampNeg)).toNatClampNeg (-1)), T)) rfl ?_
    refine xj_E.iald rfl rfl hd.1 ?_
    have hd := hd.2
    refine xj_E.adv 2 (pc' := 47) (ls' := [(4, .int ((a * 2) + (S 8 a.toNatClampNeg))), (0, .ref 1), (1, .int a), (2, .int b), (3, .int c)]) (st' := [.int ((S 8 a.toNatClampNeg) + 1), .int a, .ref 8]) (w' := (SH, (xj_set (xj_set S 9 ((a * 2) + (S 8 a.toNatClampNeg)).toNatClampNeg b) 10 ((a * 2) + (S 8 a.toNatClampNeg)).toNatClampNeg (-1)), T)) rfl ?_
    refine xj_E.iast rfl rfl hd.1 ?_
    have hd := hd.2
    refine xj_E.adv 3 (pc' := 53) (ls' := [(4, .int ((a * 2) + (S 8 a.toNatClampNeg))), (0, .ref 1), (1, .int a), (2, .int b), (3, .int c)]) (st' := [.int a, .ref 8]) (w' := (SH, (xj_set (xj_set (xj_set S 9 ((a * 2) + (S 8 a.toNatClampNeg)).toNatClampNeg b) 10 ((a * 2) + (S 8 a.toNatClampNeg)).toNatClampNeg (-1)) 8 a.toNatClampNeg ((S 8 a.toNatClampNeg) + 1)), T)) rfl ?_
    refine xj_E.iald rfl rfl hd.1 ?_
    have hd := hd.2
    exact xj_E.ret rfl rfl rfl rfl (h _ _ rfl)
set_option maxHeartbeats 4000000 in
set_option maxRecDepth 100000 in
theorem ok_p_putIfPart {L : Nat} {xs : Nat → Int32} {T : Nat → Nat → Int64} {D : Nat} {S : (Nat → Nat → Int32)} {P : (Option Value ⊕ Nat) → xj_W → Nat → Nat → Prop} {a b c d : Int32} (hD : 0 ≤ D) (hd : d_p_putIfPart a b c d S) (h : ∀ v S9, (v, S9) = f_p_putIfPart a b c d S → P (.inl none) (SH, S9, T) 0 0) : xj_E (xX L xs) D 23 0 [(0, .ref 1), (1, .int a), (2, .int b), (3, .int c), (4, .int d)] [] (SH, S, T) P := by
  unfold d_p_putIfPart at hd
  unfold f_p_putIfPart at h
  refine xj_E.adv 4 (pc' := 6) (ls' := [(0, .ref 1), (1, .int a), (2, .int b), (3, .int c), (4, .int d)]) (st' := [.int b, .int a, .ref 12]) (w' := (SH, S, T)) rfl ?_
  refine xj_E.iast rfl rfl hd.1 ?_
  have hd := hd.2
  refine xj_E.adv 4 (pc' := 13) (ls' := [(0, .ref 1), (1, .int a), (2, .int b), (3, .int c), (4, .int d)]) (st' := [.int c, .int a, .ref 11]) (w' := (SH, (xj_set S 12 a.toNatClampNeg b), T)) rfl ?_
  refine xj_E.iast rfl rfl hd.1 ?_
  have hd := hd.2
  refine xj_E.adv 4 (pc' := 21) (ls' := [(0, .ref 1), (1, .int a), (2, .int b), (3, .int c), (4, .int d)]) (st' := [.int d, .int a, .ref 13]) (w' := (SH, (xj_set (xj_set S 12 a.toNatClampNeg b) 11 a.toNatClampNeg c), T)) rfl ?_
  refine xj_E.iast rfl rfl hd.1 ?_
  have hd := hd.2
  exact xj_E.ret rfl rfl rfl rfl (h _ _ rfl)
set_option maxHeartbeats 4000000 in
set_option maxRecDepth 100000 in
theorem ok_c_openCommand {L : Nat} {xs : Nat → Int32} {T : Nat → Nat → Int64} {D : Nat} {S : (Nat → Nat → Int32)} {P : (Option Value ⊕ Nat) → xj_W → Nat → Nat → Prop} (hD : 1 ≤ D) (hd : d_c_openCommand  S) (h : ∀ v S9, (v, S9) = f_c_openCommand  S → P (.inl none) (SH, S9, T) 0 0) : xj_E (xX L xs) D 47 0 [(0, .ref 0)] [] (SH, S, T) P := by
  unfold d_c_openCommand at hd
  unfold f_c_openCommand at h
  obtain ⟨D1, rfl⟩ : ∃ D1, D = D1 + 1 := ⟨D - 1, by omega⟩
  refine xj_E.adv 4 (pc' := 8) (ls' := [(0, .ref 0)]) (st' := [.ref 14, .ref 23]) (w' := (SH, S, T)) rfl ?_
  refine xj_E.callv (d := D1) (S := SH) rfl rfl rfl rfl rfl (ok_l_copyFrom23 (by omega) hd.1 ?_)
  intro v1 S1 e1
  refine ⟨_, _, rfl, rfl, rfl, rfl, ?_⟩
  have hd := hd.2
  rw [← e1] at hd h
  refine xj_E.adv 6 (pc' := 21) (ls' := [(0, .ref 0)]) (st' := []) (w' := (SH, (xj_set (xj_set S1 0 3 0) 0 4 0), T)) rfl ?_
  exact xj_E.ret rfl rfl rfl rfl (h _ _ rfl)
set_option maxHeartbeats 4000000 in
set_option maxRecDepth 100000 in
theorem ok_c_mark {L : Nat} {xs : Nat → Int32} {T : Nat → Nat → Int64} {D : Nat} {S : (Nat → Nat → Int32)} {P : (Option Value ⊕ Nat) → xj_W → Nat → Nat → Prop} {a b : Int32} (hD : 1 ≤ D) (hd : d_c_mark a b S) (h : ∀ v S9, (v, S9) = f_c_mark a b S → P (.inl none) (SH, S9, T) 0 0) : xj_E (xX L xs) D 61 0 [(0, .ref 0), (1, .int a), (2, .int b)] [] (SH, S, T) P := by
  unfold d_c_mark at hd
  unfold f_c_mark at h
  obtain ⟨D1, rfl⟩ : ∃ D1, D = D1 + 1 := ⟨D - 1, by omega⟩
  refine xj_E.adv 3 (pc' := 5) (ls' := [(0, .ref 0), (1, .int a), (2, .int b)]) (st' := [.int a, .ref 14]) (w' := (SH, S, T)) rfl ?_
  refine xj_E.calli (d := D1) (S := SH) rfl rfl rfl rfl rfl (xj_E.deep (ok_l_isFinal (d := 0) hd.1 ?_) (by omega))
  intro v e
  subst e
  refine ⟨_, _, _, rfl, rfl, rfl, rfl, ?_⟩
  have hd := hd.2
  refine xj_E.adv 1 (pc' := (if xj_cmp .ne (r_l_isFinal S a) 0 = true then 42 else 11)) (ls' := [(0, .ref 0), (1, .int a), (2, .int b)]) (st' := []) (w' := (SH, S, T)) rfl ?_
  refine xj_E.b_ne (fun q => ?_) (fun q => ?_)
  · have hd := hd.1 q
    have h := fun v S9 e => h v S9 (Eq.trans e (if_pos q).symm)
    exact xj_E.ret rfl rfl rfl rfl (h _ _ rfl)
  · have hd := hd.2 q
    have h := fun v S9 e => h v S9 (Eq.trans e (if_neg q).symm)
    refine xj_E.adv 5 (pc' := 20) (ls' := [(0, .ref 0), (1, .int a), (2, .int b)]) (st' := [.int a, .ref 19, .int a, .ref 19]) (w' := (SH, S, T)) rfl ?_
    refine xj_E.iald rfl rfl hd.1 ?_
    have hd := hd.2
    refine xj_E.adv 8 (pc' := 37) (ls' := [(0, .ref 0), (1, .int a), (2, .int b)]) (st' := [.int a, .ref 15, .ref 5, .int b, .int (S 19 a.toNatClampNeg), .int a, .ref 19]) (w' := (SH, S, T)) rfl ?_
    refine xj_E.iald rfl rfl hd.1 ?_
    have hd := hd.2
    refine xj_E.iald rfl rfl hd.1 ?_
    have hd := hd.2
    refine xj_E.adv 2 (pc' := 41) (ls' := [(0, .ref 0), (1, .int a), (2, .int b)]) (st' := [.int ((S 19 a.toNatClampNeg) ||| (b &&& (S 5 (S 15 a.toNatClampNeg).toNatClampNeg))), .int a, .ref 19]) (w' := (SH, S, T)) rfl ?_
    refine xj_E.iast rfl rfl hd.1 ?_
    have hd := hd.2
    exact xj_E.ret rfl rfl rfl rfl (h _ _ rfl)
set_option maxHeartbeats 4000000 in
set_option maxRecDepth 100000 in
theorem ok_m_fail {L : Nat} {xs : Nat → Int32} {T : Nat → Nat → Int64} {D : Nat} {S : (Nat → Nat → Int32)} {P : (Option Value ⊕ Nat) → xj_W → Nat → Nat → Prop} {a : Int32} (hD : 0 ≤ D) (hd : d_m_fail a S) (h : ∀ v S9, (v, S9) = f_m_fail a S → P (.inl (some (.int v))) (SH, S9, T) 0 0) : xj_E (xX L xs) D 69 0 [(0, .ref 32), (1, .int a)] [] (SH, S, T) P := by
  unfold d_m_fail at hd
  unfold f_m_fail at h
  refine xj_E.adv 4 (pc' := 6) (ls' := [(0, .ref 32), (1, .int a)]) (st' := [.int 0]) (w' := (SH, (xj_set S 32 0 a), T)) rfl ?_
  exact xj_E.ret rfl rfl rfl rfl (h _ _ rfl)
set_option maxHeartbeats 4000000 in
set_option maxRecDepth 100000 in
theorem ok_m_item {L : Nat} {xs : Nat → Int32} {T : Nat → Nat → Int64} {D : Nat} {S : (Nat → Nat → Int32)} {P : (Option Value ⊕ Nat) → xj_W → Nat → Nat → Prop} {a b c : Int32} (hD : 1 ≤ D) (hd : d_m_item a b c S) (h : ∀ v S9, (v, S9) = f_m_item a b c S → P (.inl (some (.int v))) (SH, S9, T) 0 0) : xj_E (xX L xs) D 71 0 [(0, .ref 32), (1, .int a), (2, .int b), (3, .int c)] [] (SH, S, T) P := by
  unfold d_m_item at hd
  unfold f_m_item at h
  obtain ⟨D1, rfl⟩ : ∃ D1, D = D1 + 1 := ⟨D - 1, by omega⟩
  refine xj_E.adv 6 (pc' := (if xj_cmp .ne (S 32 15) 0 = true then 21 else 12)) (ls' := [(0, .ref 32), (1, .int a), (2, .int b), (3, .int c)]) (st' := []) (w' := (SH, (xj_set S 32 0 0), T)) rfl ?_
  refine xj_E.b_ne (fun q => ?_) (fun q => ?_)
  · have hd := hd.1 q
    have h := fun v S9 e => h v S9 (Eq.trans e (if_pos q).symm)
    refine xj_E.adv 2 (pc' := 23) (ls' := [(0, .ref 32), (1, .int a), (2, .int b), (3, .int c)]) (st' := [.int 1, .ref 32]) (w' := (SH, (xj_set S 32 0 0), T)) rfl ?_
    refine xj_E.calli (d := D1) (S := SH) rfl rfl rfl rfl rfl (ok_m_fail (by omega) hd.1 ?_)
    intro v1 S1 e1
    refine ⟨_, _, _, rfl, rfl, rfl, rfl, ?_⟩
    have hd := hd.2
    rw [← e1] at hd h
    exact xj_E.ret rfl rfl rfl rfl (h _ _ rfl)
  · have hd := hd.2 q
    have h := fun v S9 e => h v S9 (Eq.trans e (if_neg q).symm)
    refine xj_E.adv 4 (pc' := (if xj_cmp .ne (S 32 1) 12 = true then 27 else 21)) (ls' := [(0, .ref 32), (1, .int a), (2, .int b), (3, .int c)]) (st' := []) (w' := (SH, (xj_set S 32 0 0), T)) rfl ?_
    refine xj_E.b_ne (fun q => ?_) (fun q => ?_)
    · have hd := hd.1 q
      have h := fun v S9 e => h v S9 (Eq.trans e (if_pos q).symm)
      refine xj_E.adv 2 (pc' := 29) (ls' := [(0, .ref 32), (1, .int a), (2, .int b), (3, .int c)]) (st' := [.int 3, .int a]) (w' := (SH, (xj_set S 32 0 0), T)) rfl ?_
      refine xj_E.calli (d := D1) (S := SH) rfl rfl rfl rfl rfl (xj_E.deep (ok_m_within (d := 0) hd.1 ?_) (by omega))
      intro v e
      subst e
      refine ⟨_, _, _, rfl, rfl, rfl, rfl, ?_⟩
      have hd := hd.2
      refine xj_E.adv 1 (pc' := (if xj_cmp .eq (r_m_within (xj_set S 32 0 0) a 3) 0 = true then 57 else 35)) (ls' := [(0, .ref 32), (1, .int a), (2, .int b), (3, .int c)]) (st' := []) (w' := (SH, (xj_set S 32 0 0), T)) rfl ?_
      refine xj_E.b_eq (fun q => ?_) (fun q => ?_)
      · have hd := hd.1 q
        have h := fun v S9 e => h v S9 (Eq.trans e (if_pos q).symm)
        refine xj_E.adv 2 (pc' := 59) (ls' := [(0, .ref 32), (1, .int a), (2, .int b), (3, .int c)]) (st' := [.int 2, .ref 32]) (w' := (SH, (xj_set S 32 0 0), T)) rfl ?_
        refine xj_E.calli (d := D1) (S := SH) rfl rfl rfl rfl rfl (ok_m_fail (by omega) hd.1 ?_)
        intro v2 S2 e2
        refine ⟨_, _, _, rfl, rfl, rfl, rfl, ?_⟩
        have hd := hd.2
        rw [← e2] at hd h
        exact xj_E.ret rfl rfl rfl rfl (h _ _ rfl)
      · have hd := hd.2 q
        have h := fun v S9 e => h v S9 (Eq.trans e (if_neg q).symm)
        refine xj_E.adv 5 (pc' := 42) (ls' := [(0, .ref 32), (1, .int a), (2, .int b), (3, .int c)]) (st' := [.int ((S 32 1) - 1), .int b]) (w' := (SH, (xj_set S 32 0 0), T)) rfl ?_
        refine xj_E.calli (d := D1) (S := SH) rfl rfl rfl rfl rfl (xj_E.deep (ok_m_within (d := 0) hd.1 ?_) (by omega))
        intro v e
        subst e
        refine ⟨_, _, _, rfl, rfl, rfl, rfl, ?_⟩
        have hd := hd.2
        refine xj_E.adv 1 (pc' := (if xj_cmp .eq (r_m_within (xj_set S 32 0 0) b ((S 32 1) - 1)) 0 = true then 57 else 48)) (ls' := [(0, .ref 32), (1, .int a), (2, .int b), (3, .int c)]) (st' := []) (w' := (SH, (xj_set S 32 0 0), T)) rfl ?_
        refine xj_E.b_eq (fun q => ?_) (fun q => ?_)
        · have hd := hd.1 q
          have h := fun v S9 e => h v S9 (Eq.trans e (if_pos q).symm)
          refine xj_E.adv 2 (pc' := 59) (ls' := [(0, .ref 32), (1, .int a), (2, .int b), (3, .int c)]) (st' := [.int 2, .ref 32]) (w' := (SH, (xj_set S 32 0 0), T)) rfl ?_
          refine xj_E.calli (d := D1) (S := SH) rfl rfl rfl rfl rfl (ok_m_fail (by omega) hd.1 ?_)
          intro v3 S3 e3
          refine ⟨_, _, _, rfl, rfl, rfl, rfl, ?_⟩
          have hd := hd.2
          rw [← e3] at hd h
          exact xj_E.ret rfl rfl rfl rfl (h _ _ rfl)
        · have hd := hd.2 q
          have h := fun v S9 e => h v S9 (Eq.trans e (if_neg q).symm)
          refine xj_E.adv 2 (pc' := 51) (ls' := [(0, .ref 32), (1, .int a), (2, .int b), (3, .int c)]) (st' := [.int 15, .int c]) (w' := (SH, (xj_set S 32 0 0), T)) rfl ?_
          refine xj_E.calli (d := D1) (S := SH) rfl rfl rfl rfl rfl (xj_E.deep (ok_m_within (d := 0) hd.1 ?_) (by omega))
          intro v e
          subst e
          refine ⟨_, _, _, rfl, rfl, rfl, rfl, ?_⟩
          have hd := hd.2
          refine xj_E.adv 1 (pc' := (if xj_cmp .ne (r_m_within (xj_set S 32 0 0) c 15) 0 = true then 63 else 57)) (ls' := [(0, .ref 32), (1, .int a), (2, .int b), (3, .int c)]) (st' := []) (w' := (SH, (xj_set S 32 0 0), T)) rfl ?_
          refine xj_E.b_ne (fun q => ?_) (fun q => ?_)
          · have hd := hd.1 q
            have h := fun v S9 e => h v S9 (Eq.trans e (if_pos q).symm)
            refine xj_E.adv 3 (pc' := 68) (ls' := [(0, .ref 32), (1, .int a), (2, .int b), (3, .int c)]) (st' := [.int b, .ref 33]) (w' := (SH, (xj_set S 32 0 0), T)) rfl ?_
            refine xj_E.iald rfl rfl hd.1 ?_
            have hd := hd.2
            refine xj_E.adv 1 (pc' := (if xj_cmp .ne (S 33 b.toNatClampNeg) 0 = true then 82 else 72)) (ls' := [(0, .ref 32), (1, .int a), (2, .int b), (3, .int c)]) (st' := []) (w' := (SH, (xj_set S 32 0 0), T)) rfl ?_
            refine xj_E.b_ne (fun q => ?_) (fun q => ?_)
            · have hd := hd.1 q
              have h := fun v S9 e => h v S9 (Eq.trans e (if_pos q).symm)
              refine xj_E.adv 2 (pc' := 84) (ls' := [(0, .ref 32), (1, .int a), (2, .int b), (3, .int c)]) (st' := [.int 2, .ref 32]) (w' := (SH, (xj_set S 32 0 0), T)) rfl ?_
              refine xj_E.calli (d := D1) (S := SH) rfl rfl rfl rfl rfl (ok_m_fail (by omega) hd.1 ?_)
              intro v4 S4 e4
              refine ⟨_, _, _, rfl, rfl, rfl, rfl, ?_⟩
              have hd := hd.2
              rw [← e4] at hd h
              exact xj_E.ret rfl rfl rfl rfl (h _ _ rfl)
            · have hd := hd.2 q
              have h := fun v S9 e => h v S9 (Eq.trans e (if_neg q).symm)
              refine xj_E.adv 3 (pc' := (if xj_cmp .le c 7 = true then 88 else 78)) (ls' := [(0, .ref 32), (1, .int a), (2, .int b), (3, .int c)]) (st' := []) (w' := (SH, (xj_set S 32 0 0), T)) rfl ?_
              refine xj_E.b_le (fun q => ?_) (fun q => ?_)
              · have hd := hd.1 q
                have h := fun v S9 e => h v S9 (Eq.trans e (if_pos q).symm)
                refine xj_E.adv 5 (pc' := 97) (ls' := [(0, .ref 32), (1, .int a), (2, .int b), (3, .int c)]) (st' := [.int a, .int (S 32 1), .ref 33]) (w' := (SH, (xj_set S 32 0 0), T)) rfl ?_
                refine xj_E.iast rfl rfl hd.1 ?_
                have hd := hd.2
                refine xj_E.adv 5 (pc' := 107) (ls' := [(0, .ref 32), (1, .int a), (2, .int b), (3, .int c)]) (st' := [.int b, .int (S 32 1), .ref 34]) (w' := (SH, (xj_set (xj_set S 32 0 0) 33 (S 32 1).toNatClampNeg a), T)) rfl ?_
                refine xj_E.iast rfl rfl hd.1 ?_
                have hd := hd.2
                refine xj_E.adv 5 (pc' := 117) (ls' := [(0, .ref 32), (1, .int a), (2, .int b), (3, .int c)]) (st' := [.int c, .int (S 32 1), .ref 35]) (w' := (SH, (xj_set (xj_set (xj_set S 32 0 0) 33 (S 32 1).toNatClampNeg a) 34 (S 32 1).toNatClampNeg b), T)) rfl ?_
                refine xj_E.iast rfl rfl hd.1 ?_
                have hd := hd.2
                refine xj_E.adv 10 (pc' := 134) (ls' := [(0, .ref 32), (1, .int a), (2, .int b), (3, .int c)]) (st' := [.int (((S 32 1) + 1) - 1)]) (w' := (SH, (xj_set (xj_set (xj_set (xj_set (xj_set S 32 0 0) 33 (S 32 1).toNatClampNeg a) 34 (S 32 1).toNatClampNeg b) 35 (S 32 1).toNatClampNeg c) 32 1 ((S 32 1) + 1)), T)) rfl ?_
                exact xj_E.ret rfl rfl rfl rfl (h _ _ rfl)
              · have hd := hd.2 q
                have h := fun v S9 e => h v S9 (Eq.trans e (if_neg q).symm)
                refine xj_E.adv 2 (pc' := (if xj_cmp .eq a 0 = true then 88 else 82)) (ls' := [(0, .ref 32), (1, .int a), (2, .int b), (3, .int c)]) (st' := []) (w' := (SH, (xj_set S 32 0 0), T)) rfl ?_
                refine xj_E.b_eq (fun q => ?_) (fun q => ?_)
                · have hd := hd.1 q
                  have h := fun v S9 e => h v S9 (Eq.trans e (if_pos q).symm)
                  refine xj_E.adv 5 (pc' := 97) (ls' := [(0, .ref 32), (1, .int a), (2, .int b), (3, .int c)]) (st' := [.int a, .int (S 32 1), .ref 33]) (w' := (SH, (xj_set S 32 0 0), T)) rfl ?_
                  refine xj_E.iast rfl rfl hd.1 ?_
                  have hd := hd.2
                  refine xj_E.adv 5 (pc' := 107) (ls' := [(0, .ref 32), (1, .int a), (2, .int b), (3, .int c)]) (st' := [.int b, .int (S 32 1), .ref 34]) (w' := (SH, (xj_set (xj_set S 32 0 0) 33 (S 32 1).toNatClampNeg a), T)) rfl ?_
                  refine xj_E.iast rfl rfl hd.1 ?_
                  have hd := hd.2
                  refine xj_E.adv 5 (pc' := 117) (ls' := [(0, .ref 32), (1, .int a), (2, .int b), (3, .int c)]) (st' := [.int c, .int (S 32 1), .ref 35]) (w' := (SH, (xj_set (xj_set (xj_set S 32 0 0) 33 (S 32 1).toNatClampNeg a) 34 (S 32 1).toNatClampNeg b), T)) rfl ?_
                  refine xj_E.iast rfl rfl hd.1 ?_
                  have hd := hd.2
                  refine xj_E.adv 10 (pc' := 134) (ls' := [(0, .ref 32), (1, .int a), (2, .int b), (3, .int c)]) (st' := [.int (((S 32 1) + 1) - 1)]) (w' := (SH, (xj_set (xj_set (xj_set (xj_set (xj_set S 32 0 0) 33 (S 32 1).toNatClampNeg a) 34 (S 32 1).toNatClampNeg b) 35 (S 32 1).toNatClampNeg c) 32 1 ((S 32 1) + 1)), T)) rfl ?_
                  exact xj_E.ret rfl rfl rfl rfl (h _ _ rfl)
                · have hd := hd.2 q
                  have h := fun v S9 e => h v S9 (Eq.trans e (if_neg q).symm)
                  refine xj_E.adv 2 (pc' := 84) (ls' := [(0, .ref 32), (1, .int a), (2, .int b), (3, .int c)]) (st' := [.int 2, .ref 32]) (w' := (SH, (xj_set S 32 0 0), T)) rfl ?_
                  refine xj_E.calli (d := D1) (S := SH) rfl rfl rfl rfl rfl (ok_m_fail (by omega) hd.1 ?_)
                  intro v5 S5 e5
                  refine ⟨_, _, _, rfl, rfl, rfl, rfl, ?_⟩
                  have hd := hd.2
                  rw [← e5] at hd h
                  exact xj_E.ret rfl rfl rfl rfl (h _ _ rfl)
          · have hd := hd.2 q
            have h := fun v S9 e => h v S9 (Eq.trans e (if_neg q).symm)
            refine xj_E.adv 2 (pc' := 59) (ls' := [(0, .ref 32), (1, .int a), (2, .int b), (3, .int c)]) (st' := [.int 2, .ref 32]) (w' := (SH, (xj_set S 32 0 0), T)) rfl ?_
            refine xj_E.calli (d := D1) (S := SH) rfl rfl rfl rfl rfl (ok_m_fail (by omega) hd.1 ?_)
            intro v6 S6 e6
            refine ⟨_, _, _, rfl, rfl, rfl, rfl, ?_⟩
            have hd := hd.2
            rw [← e6] at hd h
            exact xj_E.ret rfl rfl rfl rfl (h _ _ rfl)
    · have hd := hd.2 q
      have h := fun v S9 e => h v S9 (Eq.trans e (if_neg q).symm)
      refine xj_E.adv 2 (pc' := 23) (ls' := [(0, .ref 32), (1, .int a), (2, .int b), (3, .int c)]) (st' := [.int 1, .ref 32]) (w' := (SH, (xj_set S 32 0 0), T)) rfl ?_
      refine xj_E.calli (d := D1) (S := SH) rfl rfl rfl rfl rfl (ok_m_fail (by omega) hd.1 ?_)
      intro v7 S7 e7
      refine ⟨_, _, _, rfl, rfl, rfl, rfl, ?_⟩
      have hd := hd.2
      rw [← e7] at hd h
      exact xj_E.ret rfl rfl rfl rfl (h _ _ rfl)
set_option maxHeartbeats 4000000 in
set_option maxRecDepth 100000 in
theorem ok_m_sentry {L : Nat} {xs : Nat → Int32} {T : Nat → Nat → Int64} {D : Nat} {S : (Nat → Nat → Int32)} {P : (Option Value ⊕ Nat) → xj_W → Nat → Nat → Prop} {a b : Int32} (hD : 1 ≤ D) (hd : d_m_sentry a b S) (h : ∀ v S9, (v, S9) = f_m_sentry a b S → P (.inl (some (.int v))) (SH, S9, T) 0 0) : xj_E (xX L xs) D 72 0 [(0, .ref 32), (1, .int a), (2, .int b)] [] (SH, S, T) P := by
  unfold d_m_sentry at hd
  unfold f_m_sentry at h
  obtain ⟨D1, rfl⟩ : ∃ D1, D = D1 + 1 := ⟨D - 1, by omega⟩
  refine xj_E.adv 6 (pc' := (if xj_cmp .ne (S 32 15) 0 = true then 21 else 12)) (ls' := [(0, .ref 32), (1, .int a), (2, .int b)]) (st' := []) (w' := (SH, (xj_set S 32 0 0), T)) rfl ?_
  refine xj_E.b_ne (fun q => ?_) (fun q => ?_)
  · have hd := hd.1 q
    have h := fun v S9 e => h v S9 (Eq.trans e (if_pos q).symm)
    refine xj_E.adv 2 (pc' := 23) (ls' := [(0, .ref 32), (1, .int a), (2, .int b)]) (st' := [.int 1, .ref 32]) (w' := (SH, (xj_set S 32 0 0), T)) rfl ?_
    refine xj_E.calli (d := D1) (S := SH) rfl rfl rfl rfl rfl (ok_m_fail (by omega) hd.1 ?_)
    intro v1 S1 e1
    refine ⟨_, _, _, rfl, rfl, rfl, rfl, ?_⟩
    have hd := hd.2
    rw [← e1] at hd h
    exact xj_E.ret rfl rfl rfl rfl (h _ _ rfl)
  · have hd := hd.2 q
    have h := fun v S9 e => h v S9 (Eq.trans e (if_neg q).symm)
    refine xj_E.adv 4 (pc' := (if xj_cmp .ne (S 32 5) 16 = true then 27 else 21)) (ls' := [(0, .ref 32), (1, .int a), (2, .int b)]) (st' := []) (w' := (SH, (xj_set S 32 0 0), T)) rfl ?_
    refine xj_E.b_ne (fun q => ?_) (fun q => ?_)
    · have hd := hd.1 q
      have h := fun v S9 e => h v S9 (Eq.trans e (if_pos q).symm)
      refine xj_E.adv 3 (pc' := (if xj_cmp .lt a 1 = true then 40 else 32)) (ls' := [(0, .ref 32), (1, .int a), (2, .int b)]) (st' := []) (w' := (SH, (xj_set S 32 0 0), T)) rfl ?_
      refine xj_E.b_lt (fun q => ?_) (fun q => ?_)
      · have hd := hd.1 q
        have h := fun v S9 e => h v S9 (Eq.trans e (if_pos q).symm)
        refine xj_E.adv 2 (pc' := 42) (ls' := [(0, .ref 32), (1, .int a), (2, .int b)]) (st' := [.int 2, .ref 32]) (w' := (SH, (xj_set S 32 0 0), T)) rfl ?_
        refine xj_E.calli (d := D1) (S := SH) rfl rfl rfl rfl rfl (ok_m_fail (by omega) hd.1 ?_)
        intro v2 S2 e2
        refine ⟨_, _, _, rfl, rfl, rfl, rfl, ?_⟩
        have hd := hd.2
        rw [← e2] at hd h
        exact xj_E.ret rfl rfl rfl rfl (h _ _ rfl)
      · have hd := hd.2 q
        have h := fun v S9 e => h v S9 (Eq.trans e (if_neg q).symm)
        refine xj_E.adv 4 (pc' := (if xj_cmp .lt a (S 32 1) = true then 46 else 40)) (ls' := [(0, .ref 32), (1, .int a), (2, .int b)]) (st' := []) (w' := (SH, (xj_set S 32 0 0), T)) rfl ?_
        refine xj_E.b_lt (fun q => ?_) (fun q => ?_)
        · have hd := hd.1 q
          have h := fun v S9 e => h v S9 (Eq.trans e (if_pos q).symm)
          refine xj_E.adv 3 (pc' := 51) (ls' := [(0, .ref 32), (1, .int a), (2, .int b)]) (st' := [.int a, .ref 33]) (w' := (SH, (xj_set S 32 0 0), T)) rfl ?_
          refine xj_E.iald rfl rfl hd.1 ?_
          have hd := hd.2
          refine xj_E.adv 2 (pc' := (if xj_cmp .eq b 0 = true then 60 else 56)) (ls' := [(0, .ref 32), (1, .int a), (2, .int b)]) (st' := [.int (S 33 a.toNatClampNeg)]) (w' := (SH, (xj_set S 32 0 0), T)) rfl ?_
          refine xj_E.b_eq (fun q => ?_) (fun q => ?_)
          · have hd := hd.1 q
            have h := fun v S9 e => h v S9 (Eq.trans e (if_pos q).symm)
            refine xj_E.adv 2 (pc' := (if xj_cmp .le (S 33 a.toNatClampNeg) 2 = true then 70 else 64)) (ls' := [(0, .ref 32), (1, .int a), (2, .int b)]) (st' := []) (w' := (SH, (xj_set S 32 0 0), T)) rfl ?_
            refine xj_E.b_le (fun q => ?_) (fun q => ?_)
            · have hd := hd.1 q
              have h := fun v S9 e => h v S9 (Eq.trans e (if_pos q).symm)
              refine xj_E.adv 5 (pc' := 79) (ls' := [(0, .ref 32), (1, .int a), (2, .int b)]) (st' := [.int a, .int (S 32 5), .ref 36]) (w' := (SH, (xj_set S 32 0 0), T)) rfl ?_
              refine xj_E.iast rfl rfl hd.1 ?_
              have hd := hd.2
              refine xj_E.adv 5 (pc' := 89) (ls' := [(0, .ref 32), (1, .int a), (2, .int b)]) (st' := [.int b, .int (S 32 5), .ref 37]) (w' := (SH, (xj_set (xj_set S 32 0 0) 36 (S 32 5).toNatClampNeg a), T)) rfl ?_
              refine xj_E.bast rfl rfl hd.1 ?_
              have hd := hd.2
              refine xj_E.adv 5 (pc' := 99) (ls' := [(0, .ref 32), (1, .int a), (2, .int b)]) (st' := [.int 0, .int (S 32 5), .ref 38]) (w' := (SH, (xj_set (xj_set (xj_set S 32 0 0) 36 (S 32 5).toNatClampNeg a) 37 (S 32 5).toNatClampNeg (b &&& 1)), T)) rfl ?_
              refine xj_E.iast rfl rfl hd.1 ?_
              have hd := hd.2
              refine xj_E.adv 5 (pc' := 109) (ls' := [(0, .ref 32), (1, .int a), (2, .int b)]) (st' := [.int 0, .int (S 32 5), .ref 41]) (w' := (SH, (xj_set (xj_set (xj_set (xj_set S 32 0 0) 36 (S 32 5).toNatClampNeg a) 37 (S 32 5).toNatClampNeg (b &&& 1)) 38 (S 32 5).toNatClampNeg 0), T)) rfl ?_
              refine xj_E.bast rfl rfl hd.1 ?_
              have hd := hd.2
              refine xj_E.adv 10 (pc' := 126) (ls' := [(0, .ref 32), (1, .int a), (2, .int b)]) (st' := [.int (((S 32 5) + 1) - 1)]) (w' := (SH, (xj_set (xj_set (xj_set (xj_set (xj_set (xj_set S 32 0 0) 36 (S 32 5).toNatClampNeg a) 37 (S 32 5).toNatClampNeg (b &&& 1)) 38 (S 32 5).toNatClampNeg 0) 41 (S 32 5).toNatClampNeg (0 &&& 1)) 32 5 ((S 32 5) + 1)), T)) rfl ?_
              exact xj_E.ret rfl rfl rfl rfl (h _ _ rfl)
            · have hd := hd.2 q
              have h := fun v S9 e => h v S9 (Eq.trans e (if_neg q).symm)
              refine xj_E.adv 2 (pc' := 66) (ls' := [(0, .ref 32), (1, .int a), (2, .int b)]) (st' := [.int 2, .ref 32]) (w' := (SH, (xj_set S 32 0 0), T)) rfl ?_
              refine xj_E.calli (d := D1) (S := SH) rfl rfl rfl rfl rfl (ok_m_fail (by omega) hd.1 ?_)
              intro v3 S3 e3
              refine ⟨_, _, _, rfl, rfl, rfl, rfl, ?_⟩
              have hd := hd.2
              rw [← e3] at hd h
              exact xj_E.ret rfl rfl rfl rfl (h _ _ rfl)
          · have hd := hd.2 q
            have h := fun v S9 e => h v S9 (Eq.trans e (if_neg q).symm)
            refine xj_E.adv 3 (pc' := (if xj_cmp .le (S 33 a.toNatClampNeg) 1 = true then 70 else 64)) (ls' := [(0, .ref 32), (1, .int a), (2, .int b)]) (st' := []) (w' := (SH, (xj_set S 32 0 0), T)) rfl ?_
            refine xj_E.b_le (fun q => ?_) (fun q => ?_)
            · have hd := hd.1 q
              have h := fun v S9 e => h v S9 (Eq.trans e (if_pos q).symm)
              refine xj_E.adv 5 (pc' := 79) (ls' := [(0, .ref 32), (1, .int a), (2, .int b)]) (st' := [.int a, .int (S 32 5), .ref 36]) (w' := (SH, (xj_set S 32 0 0), T)) rfl ?_
              refine xj_E.iast rfl rfl hd.1 ?_
              have hd := hd.2
              refine xj_E.adv 5 (pc' := 89) (ls' := [(0, .ref 32), (1, .int a), (2, .int b)]) (st' := [.int b, .int (S 32 5), .ref 37]) (w' := (SH, (xj_set (xj_set S 32 0 0) 36 (S 32 5).toNatClampNeg a), T)) rfl ?_
              refine xj_E.bast rfl rfl hd.1 ?_
              have hd := hd.2
              refine xj_E.adv 5 (pc' := 99) (ls' := [(0, .ref 32), (1, .int a), (2, .int b)]) (st' := [.int 0, .int (S 32 5), .ref 38]) (w' := (SH, (xj_set (xj_set (xj_set S 32 0 0) 36 (S 32 5).toNatClampNeg a) 37 (S 32 5).toNatClampNeg (b &&& 1)), T)) rfl ?_
              refine xj_E.iast rfl rfl hd.1 ?_
              have hd := hd.2
              refine xj_E.adv 5 (pc' := 109) (ls' := [(0, .ref 32), (1, .int a), (2, .int b)]) (st' := [.int 0, .int (S 32 5), .ref 41]) (w' := (SH, (xj_set (xj_set (xj_set (xj_set S 32 0 0) 36 (S 32 5).toNatClampNeg a) 37 (S 32 5).toNatClampNeg (b &&& 1)) 38 (S 32 5).toNatClampNeg 0), T)) rfl ?_
              refine xj_E.bast rfl rfl hd.1 ?_
              have hd := hd.2
              refine xj_E.adv 10 (pc' := 126) (ls' := [(0, .ref 32), (1, .int a), (2, .int b)]) (st' := [.int (((S 32 5) + 1) - 1)]) (w' := (SH, (xj_set (xj_set (xj_set (xj_set (xj_set (xj_set S 32 0 0) 36 (S 32 5).toNatClampNeg a) 37 (S 32 5).toNatClampNeg (b &&& 1)) 38 (S 32 5).toNatClampNeg 0) 41 (S 32 5).toNatClampNeg (0 &&& 1)) 32 5 ((S 32 5) + 1)), T)) rfl ?_
              exact xj_E.ret rfl rfl rfl rfl (h _ _ rfl)
            · have hd := hd.2 q
              have h := fun v S9 e => h v S9 (Eq.trans e (if_neg q).symm)
              refine xj_E.adv 2 (pc' := 66) (ls' := [(0, .ref 32), (1, .int a), (2, .int b)]) (st' := [.int 2, .ref 32]) (w' := (SH, (xj_set S 32 0 0), T)) rfl ?_
              refine xj_E.calli (d := D1) (S := SH) rfl rfl rfl rfl rfl (ok_m_fail (by omega) hd.1 ?_)
              intro v4 S4 e4
              refine ⟨_, _, _, rfl, rfl, rfl, rfl, ?_⟩
              have hd := hd.2
              rw [← e4] at hd h
              exact xj_E.ret rfl rfl rfl rfl (h _ _ rfl)
        · have hd := hd.2 q
          have h := fun v S9 e => h v S9 (Eq.trans e (if_neg q).symm)
          refine xj_E.adv 2 (pc' := 42) (ls' := [(0, .ref 32), (1, .int a), (2, .int b)]) (st' := [.int 2, .ref 32]) (w' := (SH, (xj_set S 32 0 0), T)) rfl ?_
          refine xj_E.calli (d := D1) (S := SH) rfl rfl rfl rfl rfl (ok_m_fail (by omega) hd.1 ?_)
          intro v5 S5 e5
          refine ⟨_, _, _, rfl, rfl, rfl, rfl, ?_⟩
          have hd := hd.2
          rw [← e5] at hd h
          exact xj_E.ret rfl rfl rfl rfl (h _ _ rfl)
    · have hd := hd.2 q
      have h := fun v S9 e => h v S9 (Eq.trans e (if_neg q).symm)
      refine xj_E.adv 2 (pc' := 23) (ls' := [(0, .ref 32), (1, .int a), (2, .int b)]) (st' := [.int 1, .ref 32]) (w' := (SH, (xj_set S 32 0 0), T)) rfl ?_
      refine xj_E.calli (d := D1) (S := SH) rfl rfl rfl rfl rfl (ok_m_fail (by omega) hd.1 ?_)
      intro v6 S6 e6
      refine ⟨_, _, _, rfl, rfl, rfl, rfl, ?_⟩
      have hd := hd.2
      rw [← e6] at hd h
      exact xj_E.ret rfl rfl rfl rfl (h _ _ rfl)
