/-! the wrappers of the law -/
seal f_l_copyFrom14 d_l_copyFrom14 f_l_copyFrom23 d_l_copyFrom23 f_l_add d_l_add f_l_note d_l_note f_p_addItem d_p_addItem f_p_addSentry d_p_addSentry f_p_addPart d_p_addPart f_p_putIfPart d_p_putIfPart f_c_openCommand d_c_openCommand f_c_mark d_c_mark f_m_fail d_m_fail f_m_item d_m_item f_m_sentry d_m_sentry f_m_on d_m_on f_m_when d_m_when f_m_book d_m_book f_m_mark d_m_mark f_m_create d_m_create f_m_again d_m_again f_m_keep d_m_keep f_m_putBack d_m_putBack f_m_can d_m_can f_m_markVariable d_m_markVariable f_m_value d_m_value f_m_instances d_m_instances f_m_instance d_m_instance f_m_marked d_m_marked f_m_moves d_m_moves f_m_history d_m_history f_c_markSiblings d_c_markSiblings f_c_markAll d_c_markAll f_m_enter d_m_enter f_m_make d_m_make f_m_letIn d_m_letIn f_m_workOff d_m_workOff f_m_finish d_m_finish f_m_begin d_m_begin f_m_move d_m_move f_m_set d_m_set f_c_create d_c_create f_c_make d_c_make f_c_moveWhatIsIn d_c_moveWhatIsIn f_c_createWhatIsIn d_c_createWhatIsIn f_c_exitChildren d_c_exitChildren f_c_moveChildren d_c_moveChildren f_c_repeat d_c_repeat f_c_letIn d_c_letIn f_c_item d_c_item f_c_sentry d_c_sentry f_c_on d_c_on f_c_when d_c_when f_c_workOff d_c_workOff f_c_begin d_c_begin f_c_move d_c_move f_c_set d_c_set r_f_floorMod d_f_floorMod r_l_hasBegun d_l_hasBegun r_l_has d_l_has r_l_isFinal d_l_isFinal r_l_isWaiting d_l_isWaiting r_p_partBit d_p_partBit r_p_hasItem d_p_hasItem r_p_isStage d_p_isStage r_p_hasFlag d_p_hasFlag r_p_hasEntry d_p_hasEntry r_p_mayHaveSentry d_p_mayHaveSentry r_p_hasSentry d_p_hasSentry r_p_hasAllParts d_p_hasAllParts r_p_partsHearing d_p_partsHearing r_p_ifPartHolds d_p_ifPartHolds r_c_instances d_c_instances r_c_instance d_c_instance r_c_marked d_c_marked r_c_moves d_c_moves r_c_history d_c_history r_c_isVariable d_c_isVariable r_c_isCommandMove d_c_isCommandMove r_c_parentLets d_c_parentLets r_c_isSettled d_c_isSettled r_c_hasWaitingChild d_c_hasWaitingChild r_m_thrown d_m_thrown r_m_within d_m_within r_m_isSentry d_m_isSentry r_m_isFinal d_m_isFinal r_m_kindOf d_m_kindOf r_m_hasFlag d_m_hasFlag r_m_hasEntry d_m_hasEntry r_m_parentActive d_m_parentActive r_m_target d_m_target r_m_follows d_m_follows r_m_satisfied d_m_satisfied r_m_someSatisfied d_m_someSatisfied r_m_settled d_m_settled r_m_done d_m_done r_m_toExit d_m_toExit r_m_toLetIn d_m_toLetIn r_m_toComplete d_m_toComplete r_m_allowed d_m_allowed r_m_refusal d_m_refusal r_p_mayHear d_p_mayHear r_p_isSatisfied d_p_isSatisfied r_c_value d_c_value r_c_stateAndKindFit d_c_stateAndKindFit r_c_hasSatisfied d_c_hasSatisfied r_c_isDone d_c_isDone r_c_mayBeMoved d_c_mayBeMoved r_c_lowestToExit d_c_lowestToExit r_c_lowestToEnter d_c_lowestToEnter r_c_lowestToComplete d_c_lowestToComplete r_c_can d_c_can
set_option maxRecDepth 100000 in
theorem ok_w_item {L : Nat} {xs : Nat → Int32} {T : Nat → Nat → Int64} {D : Nat} {S : (Nat → Nat → Int32)} {P : (Option Value ⊕ Nat) → xj_W → Nat → Nat → Prop} {a b c : Int32} {tag : Nat} {v : Int32} {S9 : Nat → Nat → Int32} (hD : 2 ≤ D) (hd : d_c_item a b c S) (hf : f_c_item a b c S = (tag, v, S9)) (ht : tag = 0 ∨ tag = 1 ∨ tag = 2) (h0 : tag = 0 → P (.inl (some (.int 0))) (SH, S9, xj_setL T 64 0 v.toInt64) 0 0) (h1 : tag = 1 → P (.inl (some (.int 1))) (SH, S9, T) 1 6) (h2 : tag = 2 → P (.inl (some (.int 2))) (SH, S9, T) 1 6) : xj_E (xX L xs) (D + 1) 114 0 [(0, .ref 0), (1, .int a), (2, .int b), (3, .int c), (4, .ref 64)] [] (SH, S, T) P := by
  refine xj_E.adv 6 (pc' := 7) (ls' := [(0, .ref 0), (1, .int a), (2, .int b), (3, .int c), (4, .ref 64)]) (st' := [.int c, .int b, .int a, .ref 0, .int 0, .ref 64]) (w' := (SH, S, T)) rfl ?_
  refine xj_E.call rfl rfl rfl rfl rfl (ok_c_item hD hd ?_ ?_)
  · intro v1 S1 e
    rw [hf] at e
    obtain ⟨e1, e2⟩ := Prod.mk.inj e
    obtain ⟨e2, e3⟩ := Prod.mk.inj e2
    subst e2
    subst e3
    show xj_E (xX L xs) (D + 1) 114 10 [(0, .ref 0), (1, .int a), (2, .int b), (3, .int c), (4, .ref 64)] [.int v1, .int 0, .ref 64] (SH, S1, T) _
    refine xj_E.adv 4 (pc' := 24) (ls' := [(0, .ref 0), (1, .int a), (2, .int b), (3, .int c), (4, .ref 64)]) (st' := [.int 0]) (w' := (SH, S1, xj_setL T 64 0 v1.toInt64)) rfl ?_
    exact xj_E.ret rfl rfl rfl rfl (h0 e1.symm)
  · intro q v1 S1 e
    rw [hf] at e
    obtain ⟨e1, e2⟩ := Prod.mk.inj e
    obtain ⟨e2, e3⟩ := Prod.mk.inj e2
    subst e2
    subst e3
    rcases ht with ht | ht | ht
    · exact absurd (e1.trans ht) (Nat.succ_ne_zero q)
    · have eq : q = 0 := by omega
      subst eq
      refine ⟨rfl, ?_⟩
      show xj_wok (SH, S1, T) = true ∧ xj_E (xX L xs) (D + 1) 114 15 [(0, .ref 0), (1, .int a), (2, .int b), (3, .int c), (4, .ref 64)] [.ref 4096] (SH, S1, T) _
      refine ⟨rfl, ?_⟩
      refine xj_E.adv 2 (pc' := 18) (ls' := [(5, .ref 4096), (0, .ref 0), (1, .int a), (2, .int b), (3, .int c), (4, .ref 64)]) (st' := [.int 1]) (w' := (SH, S1, T)) rfl ?_
      exact xj_E.ret rfl rfl rfl rfl (h1 ht)
    · have eq : q = 1 := by omega
      subst eq
      refine ⟨rfl, ?_⟩
      show xj_wok (SH, S1, T) = true ∧ xj_E (xX L xs) (D + 1) 114 19 [(0, .ref 0), (1, .int a), (2, .int b), (3, .int c), (4, .ref 64)] [.ref 4096] (SH, S1, T) _
      refine ⟨rfl, ?_⟩
      refine xj_E.adv 2 (pc' := 22) (ls' := [(5, .ref 4096), (0, .ref 0), (1, .int a), (2, .int b), (3, .int c), (4, .ref 64)]) (st' := [.int 2]) (w' := (SH, S1, T)) rfl ?_
      exact xj_E.ret rfl rfl rfl rfl (h2 ht)
set_option maxRecDepth 100000 in
theorem ok_w_sentry {L : Nat} {xs : Nat → Int32} {T : Nat → Nat → Int64} {D : Nat} {S : (Nat → Nat → Int32)} {P : (Option Value ⊕ Nat) → xj_W → Nat → Nat → Prop} {a b : Int32} {tag : Nat} {v : Int32} {S9 : Nat → Nat → Int32} (hD : 2 ≤ D) (hd : d_c_sentry a b S) (hf : f_c_sentry a b S = (tag, v, S9)) (ht : tag = 0 ∨ tag = 1 ∨ tag = 2) (h0 : tag = 0 → P (.inl (some (.int 0))) (SH, S9, xj_setL T 64 0 v.toInt64) 0 0) (h1 : tag = 1 → P (.inl (some (.int 1))) (SH, S9, T) 1 6) (h2 : tag = 2 → P (.inl (some (.int 2))) (SH, S9, T) 1 6) : xj_E (xX L xs) (D + 1) 115 0 [(0, .ref 0), (1, .int a), (2, .int b), (3, .ref 64)] [] (SH, S, T) P := by
  refine xj_E.adv 5 (pc' := 5) (ls' := [(0, .ref 0), (1, .int a), (2, .int b), (3, .ref 64)]) (st' := [.int b, .int a, .ref 0, .int 0, .ref 64]) (w' := (SH, S, T)) rfl ?_
  refine xj_E.call rfl rfl rfl rfl rfl (ok_c_sentry hD hd ?_ ?_)
  · intro v1 S1 e
    rw [hf] at e
    obtain ⟨e1, e2⟩ := Prod.mk.inj e
    obtain ⟨e2, e3⟩ := Prod.mk.inj e2
    subst e2
    subst e3
    show xj_E (xX L xs) (D + 1) 115 8 [(0, .ref 0), (1, .int a), (2, .int b), (3, .ref 64)] [.int v1, .int 0, .ref 64] (SH, S1, T) _
    refine xj_E.adv 4 (pc' := 22) (ls' := [(0, .ref 0), (1, .int a), (2, .int b), (3, .ref 64)]) (st' := [.int 0]) (w' := (SH, S1, xj_setL T 64 0 v1.toInt64)) rfl ?_
    exact xj_E.ret rfl rfl rfl rfl (h0 e1.symm)
  · intro q v1 S1 e
    rw [hf] at e
    obtain ⟨e1, e2⟩ := Prod.mk.inj e
    obtain ⟨e2, e3⟩ := Prod.mk.inj e2
    subst e2
    subst e3
    rcases ht with ht | ht | ht
    · exact absurd (e1.trans ht) (Nat.succ_ne_zero q)
    · have eq : q = 0 := by omega
      subst eq
      refine ⟨rfl, ?_⟩
      show xj_wok (SH, S1, T) = true ∧ xj_E (xX L xs) (D + 1) 115 13 [(0, .ref 0), (1, .int a), (2, .int b), (3, .ref 64)] [.ref 4096] (SH, S1, T) _
      refine ⟨rfl, ?_⟩
      refine xj_E.adv 2 (pc' := 16) (ls' := [(4, .ref 4096), (0, .ref 0), (1, .int a), (2, .int b), (3, .ref 64)]) (st' := [.int 1]) (w' := (SH, S1, T)) rfl ?_
      exact xj_E.ret rfl rfl rfl rfl (h1 ht)
    · have eq : q = 1 := by omega
      subst eq
      refine ⟨rfl, ?_⟩
      show xj_wok (SH, S1, T) = true ∧ xj_E (xX L xs) (D + 1) 115 17 [(0, .ref 0), (1, .int a), (2, .int b), (3, .ref 64)] [.ref 4096] (SH, S1, T) _
      refine ⟨rfl, ?_⟩
      refine xj_E.adv 2 (pc' := 20) (ls' := [(4, .ref 4096), (0, .ref 0), (1, .int a), (2, .int b), (3, .ref 64)]) (st' := [.int 2]) (w' := (SH, S1, T)) rfl ?_
      exact xj_E.ret rfl rfl rfl rfl (h2 ht)
set_option maxRecDepth 100000 in
theorem ok_w_on {L : Nat} {xs : Nat → Int32} {T : Nat → Nat → Int64} {D : Nat} {S : (Nat → Nat → Int32)} {P : (Option Value ⊕ Nat) → xj_W → Nat → Nat → Prop} {a b c : Int32} {tag : Nat} {v : Int32} {S9 : Nat → Nat → Int32} (hD : 2 ≤ D) (hd : d_c_on a b c S) (hf : f_c_on a b c S = (tag, v, S9)) (ht : tag = 0 ∨ tag = 1 ∨ tag = 2) (h0 : tag = 0 → P (.inl (some (.int 0))) (SH, S9, xj_setL T 64 0 v.toInt64) 0 0) (h1 : tag = 1 → P (.inl (some (.int 1))) (SH, S9, T) 1 6) (h2 : tag = 2 → P (.inl (some (.int 2))) (SH, S9, T) 1 6) : xj_E (xX L xs) (D + 1) 116 0 [(0, .ref 0), (1, .int a), (2, .int b), (3, .int c), (4, .ref 64)] [] (SH, S, T) P := by
  refine xj_E.adv 6 (pc' := 7) (ls' := [(0, .ref 0), (1, .int a), (2, .int b), (3, .int c), (4, .ref 64)]) (st' := [.int c, .int b, .int a, .ref 0, .int 0, .ref 64]) (w' := (SH, S, T)) rfl ?_
  refine xj_E.call rfl rfl rfl rfl rfl (ok_c_on hD hd ?_ ?_)
  · intro v1 S1 e
    rw [hf] at e
    obtain ⟨e1, e2⟩ := Prod.mk.inj e
    obtain ⟨e2, e3⟩ := Prod.mk.inj e2
    subst e2
    subst e3
    show xj_E (xX L xs) (D + 1) 116 10 [(0, .ref 0), (1, .int a), (2, .int b), (3, .int c), (4, .ref 64)] [.int v1, .int 0, .ref 64] (SH, S1, T) _
    refine xj_E.adv 4 (pc' := 24) (ls' := [(0, .ref 0), (1, .int a), (2, .int b), (3, .int c), (4, .ref 64)]) (st' := [.int 0]) (w' := (SH, S1, xj_setL T 64 0 v1.toInt64)) rfl ?_
    exact xj_E.ret rfl rfl rfl rfl (h0 e1.symm)
  · intro q v1 S1 e
    rw [hf] at e
    obtain ⟨e1, e2⟩ := Prod.mk.inj e
    obtain ⟨e2, e3⟩ := Prod.mk.inj e2
    subst e2
    subst e3
    rcases ht with ht | ht | ht
    · exact absurd (e1.trans ht) (Nat.succ_ne_zero q)
    · have eq : q = 0 := by omega
      subst eq
      refine ⟨rfl, ?_⟩
      show xj_wok (SH, S1, T) = true ∧ xj_E (xX L xs) (D + 1) 116 15 [(0, .ref 0), (1, .int a), (2, .int b), (3, .int c), (4, .ref 64)] [.ref 4096] (SH, S1, T) _
      refine ⟨rfl, ?_⟩
      refine xj_E.adv 2 (pc' := 18) (ls' := [(5, .ref 4096), (0, .ref 0), (1, .int a), (2, .int b), (3, .int c), (4, .ref 64)]) (st' := [.int 1]) (w' := (SH, S1, T)) rfl ?_
      exact xj_E.ret rfl rfl rfl rfl (h1 ht)
    · have eq : q = 1 := by omega
      subst eq
      refine ⟨rfl, ?_⟩
      show xj_wok (SH, S1, T) = true ∧ xj_E (xX L xs) (D + 1) 116 19 [(0, .ref 0), (1, .int a), (2, .int b), (3, .int c), (4, .ref 64)] [.ref 4096] (SH, S1, T) _
      refine ⟨rfl, ?_⟩
      refine xj_E.adv 2 (pc' := 22) (ls' := [(5, .ref 4096), (0, .ref 0), (1, .int a), (2, .int b), (3, .int c), (4, .ref 64)]) (st' := [.int 2]) (w' := (SH, S1, T)) rfl ?_
      exact xj_E.ret rfl rfl rfl rfl (h2 ht)
set_option maxRecDepth 100000 in
theorem ok_w_when {L : Nat} {xs : Nat → Int32} {T : Nat → Nat → Int64} {D : Nat} {S : (Nat → Nat → Int32)} {P : (Option Value ⊕ Nat) → xj_W → Nat → Nat → Prop} {a b c d : Int32} {tag : Nat} {v : Int32} {S9 : Nat → Nat → Int32} (hD : 1 ≤ D) (hd : d_c_when a b c d S) (hf : f_c_when a b c d S = (tag, v, S9)) (ht : tag = 0 ∨ tag = 1 ∨ tag = 2) (h0 : tag = 0 → P (.inl (some (.int 0))) (SH, S9, T) 0 0) (h1 : tag = 1 → P (.inl (some (.int 1))) (SH, S9, T) 1 6) (h2 : tag = 2 → P (.inl (some (.int 2))) (SH, S9, T) 1 6) : xj_E (xX L xs) (D + 1) 117 0 [(0, .ref 0), (1, .int a), (2, .int b), (3, .int c), (4, .int d)] [] (SH, S, T) P := by
  refine xj_E.adv 5 (pc' := 6) (ls' := [(0, .ref 0), (1, .int a), (2, .int b), (3, .int c), (4, .int d)]) (st' := [.int d, .int c, .int b, .int a, .ref 0]) (w' := (SH, S, T)) rfl ?_
  refine xj_E.call rfl rfl rfl rfl rfl (ok_c_when hD hd ?_ ?_)
  · intro v1 S1 e
    rw [hf] at e
    obtain ⟨e1, e2⟩ := Prod.mk.inj e
    obtain ⟨e2, e3⟩ := Prod.mk.inj e2
    subst e2
    subst e3
    show xj_E (xX L xs) (D + 1) 117 9 [(0, .ref 0), (1, .int a), (2, .int b), (3, .int c), (4, .int d)] [] (SH, S1, T) _
    refine xj_E.adv 2 (pc' := 21) (ls' := [(0, .ref 0), (1, .int a), (2, .int b), (3, .int c), (4, .int d)]) (st' := [.int 0]) (w' := (SH, S1, T)) rfl ?_
    exact xj_E.ret rfl rfl rfl rfl (h0 e1.symm)
  · intro q v1 S1 e
    rw [hf] at e
    obtain ⟨e1, e2⟩ := Prod.mk.inj e
    obtain ⟨e2, e3⟩ := Prod.mk.inj e2
    subst e2
    subst e3
    rcases ht with ht | ht | ht
    · exact absurd (e1.trans ht) (Nat.succ_ne_zero q)
    · have eq : q = 0 := by omega
      subst eq
      refine ⟨rfl, ?_⟩
      show xj_wok (SH, S1, T) = true ∧ xj_E (xX L xs) (D + 1) 117 12 [(0, .ref 0), (1, .int a), (2, .int b), (3, .int c), (4, .int d)] [.ref 4096] (SH, S1, T) _
      refine ⟨rfl, ?_⟩
      refine xj_E.adv 2 (pc' := 15) (ls' := [(5, .ref 4096), (0, .ref 0), (1, .int a), (2, .int b), (3, .int c), (4, .int d)]) (st' := [.int 1]) (w' := (SH, S1, T)) rfl ?_
      exact xj_E.ret rfl rfl rfl rfl (h1 ht)
    · have eq : q = 1 := by omega
      subst eq
      refine ⟨rfl, ?_⟩
      show xj_wok (SH, S1, T) = true ∧ xj_E (xX L xs) (D + 1) 117 16 [(0, .ref 0), (1, .int a), (2, .int b), (3, .int c), (4, .int d)] [.ref 4096] (SH, S1, T) _
      refine ⟨rfl, ?_⟩
      refine xj_E.adv 2 (pc' := 19) (ls' := [(5, .ref 4096), (0, .ref 0), (1, .int a), (2, .int b), (3, .int c), (4, .int d)]) (st' := [.int 2]) (w' := (SH, S1, T)) rfl ?_
      exact xj_E.ret rfl rfl rfl rfl (h2 ht)
set_option maxRecDepth 100000 in
theorem ok_w_begin {L : Nat} {xs : Nat → Int32} {T : Nat → Nat → Int64} {D : Nat} {S : (Nat → Nat → Int32)} {P : (Option Value ⊕ Nat) → xj_W → Nat → Nat → Prop} {a : Int32} {tag : Nat} {v : Int32} {S9 : Nat → Nat → Int32} (hD : 606 ≤ D) (hd : d_c_begin a S) (hf : f_c_begin a S = (tag, v, S9)) (ht : tag = 0 ∨ tag = 1 ∨ tag = 2 ∨ tag = 3) (h0 : tag = 0 → P (.inl (some (.int 0))) (SH, S9, xj_setL T 64 0 v.toInt64) 0 0) (h1 : tag = 1 → P (.inl (some (.int 1))) (SH, S9, T) 1 6) (h2 : tag = 2 → P (.inl (some (.int 2))) (SH, S9, T) 1 6) (h3 : tag = 3 → P (.inl (some (.int 3))) (SH, S9, T) 1 6) : xj_E (xX L xs) (D + 1) 118 0 [(0, .ref 0), (1, .int a), (2, .ref 64)] [] (SH, S, T) P := by
  refine xj_E.adv 4 (pc' := 4) (ls' := [(0, .ref 0), (1, .int a), (2, .ref 64)]) (st' := [.int a, .ref 0, .int 0, .ref 64]) (w' := (SH, S, T)) rfl ?_
  refine xj_E.call rfl rfl rfl rfl rfl (ok_c_begin hD hd ?_ ?_)
  · intro v1 S1 e
    rw [hf] at e
    obtain ⟨e1, e2⟩ := Prod.mk.inj e
    obtain ⟨e2, e3⟩ := Prod.mk.inj e2
    subst e2
    subst e3
    show xj_E (xX L xs) (D + 1) 118 7 [(0, .ref 0), (1, .int a), (2, .ref 64)] [.int v1, .int 0, .ref 64] (SH, S1, T) _
    refine xj_E.adv 4 (pc' := 22) (ls' := [(0, .ref 0), (1, .int a), (2, .ref 64)]) (st' := [.int 0]) (w' := (SH, S1, xj_setL T 64 0 v1.toInt64)) rfl ?_
    exact xj_E.ret rfl rfl rfl rfl (h0 e1.symm)
  · intro q v1 S1 e
    rw [hf] at e
    obtain ⟨e1, e2⟩ := Prod.mk.inj e
    obtain ⟨e2, e3⟩ := Prod.mk.inj e2
    subst e2
    subst e3
    rcases ht with ht | ht | ht | ht
    · exact absurd (e1.trans ht) (Nat.succ_ne_zero q)
    · have eq : q = 0 := by omega
      subst eq
      refine ⟨rfl, ?_⟩
      show xj_wok (SH, S1, T) = true ∧ xj_E (xX L xs) (D + 1) 118 12 [(0, .ref 0), (1, .int a), (2, .ref 64)] [.ref 4096] (SH, S1, T) _
      refine ⟨rfl, ?_⟩
      refine xj_E.adv 2 (pc' := 14) (ls' := [(3, .ref 4096), (0, .ref 0), (1, .int a), (2, .ref 64)]) (st' := [.int 1]) (w' := (SH, S1, T)) rfl ?_
      exact xj_E.ret rfl rfl rfl rfl (h1 ht)
    · have eq : q = 1 := by omega
      subst eq
      refine ⟨rfl, ?_⟩
      show xj_wok (SH, S1, T) = true ∧ xj_E (xX L xs) (D + 1) 118 15 [(0, .ref 0), (1, .int a), (2, .ref 64)] [.ref 4096] (SH, S1, T) _
      refine ⟨rfl, ?_⟩
      refine xj_E.adv 2 (pc' := 17) (ls' := [(3, .ref 4096), (0, .ref 0), (1, .int a), (2, .ref 64)]) (st' := [.int 2]) (w' := (SH, S1, T)) rfl ?_
      exact xj_E.ret rfl rfl rfl rfl (h2 ht)
    · have eq : q = 2 := by omega
      subst eq
      refine ⟨rfl, ?_⟩
      show xj_wok (SH, S1, T) = true ∧ xj_E (xX L xs) (D + 1) 118 18 [(0, .ref 0), (1, .int a), (2, .ref 64)] [.ref 4096] (SH, S1, T) _
      refine ⟨rfl, ?_⟩
      refine xj_E.adv 2 (pc' := 20) (ls' := [(3, .ref 4096), (0, .ref 0), (1, .int a), (2, .ref 64)]) (st' := [.int 3]) (w' := (SH, S1, T)) rfl ?_
      exact xj_E.ret rfl rfl rfl rfl (h3 ht)
set_option maxRecDepth 100000 in
theorem ok_w_move {L : Nat} {xs : Nat → Int32} {T : Nat → Nat → Int64} {D : Nat} {S : (Nat → Nat → Int32)} {P : (Option Value ⊕ Nat) → xj_W → Nat → Nat → Prop} {a b : Int32} {tag : Nat} {v : Int32} {S9 : Nat → Nat → Int32} (hD : 606 ≤ D) (hd : d_c_move a b S) (hf : f_c_move a b S = (tag, v, S9)) (ht : tag = 0 ∨ tag = 1 ∨ tag = 2 ∨ tag = 3 ∨ tag = 4) (h0 : tag = 0 → P (.inl (some (.int 0))) (SH, S9, xj_setL T 64 0 v.toInt64) 0 0) (h1 : tag = 1 → P (.inl (some (.int 3))) (SH, S9, T) 1 6) (h2 : tag = 2 → P (.inl (some (.int 2))) (SH, S9, T) 1 6) (h3 : tag = 3 → P (.inl (some (.int 4))) (SH, S9, T) 1 6) (h4 : tag = 4 → P (.inl (some (.int 1))) (SH, S9, T) 1 6) : xj_E (xX L xs) (D + 1) 119 0 [(0, .ref 0), (1, .int a), (2, .int b), (3, .ref 64)] [] (SH, S, T) P := by
  refine xj_E.adv 5 (pc' := 5) (ls' := [(0, .ref 0), (1, .int a), (2, .int b), (3, .ref 64)]) (st' := [.int b, .int a, .ref 0, .int 0, .ref 64]) (w' := (SH, S, T)) rfl ?_
  refine xj_E.call rfl rfl rfl rfl rfl (ok_c_move hD hd ?_ ?_)
  · intro v1 S1 e
    rw [hf] at e
    obtain ⟨e1, e2⟩ := Prod.mk.inj e
    obtain ⟨e2, e3⟩ := Prod.mk.inj e2
    subst e2
    subst e3
    show xj_E (xX L xs) (D + 1) 119 8 [(0, .ref 0), (1, .int a), (2, .int b), (3, .ref 64)] [.int v1, .int 0, .ref 64] (SH, S1, T) _
    refine xj_E.adv 4 (pc' := 30) (ls' := [(0, .ref 0), (1, .int a), (2, .int b), (3, .ref 64)]) (st' := [.int 0]) (w' := (SH, S1, xj_setL T 64 0 v1.toInt64)) rfl ?_
    exact xj_E.ret rfl rfl rfl rfl (h0 e1.symm)
  · intro q v1 S1 e
    rw [hf] at e
    obtain ⟨e1, e2⟩ := Prod.mk.inj e
    obtain ⟨e2, e3⟩ := Prod.mk.inj e2
    subst e2
    subst e3
    rcases ht with ht | ht | ht | ht | ht
    · exact absurd (e1.trans ht) (Nat.succ_ne_zero q)
    · have eq : q = 0 := by omega
      subst eq
      refine ⟨rfl, ?_⟩
      show xj_wok (SH, S1, T) = true ∧ xj_E (xX L xs) (D + 1) 119 21 [(0, .ref 0), (1, .int a), (2, .int b), (3, .ref 64)] [.ref 4096] (SH, S1, T) _
      refine ⟨rfl, ?_⟩
      refine xj_E.adv 2 (pc' := 24) (ls' := [(4, .ref 4096), (0, .ref 0), (1, .int a), (2, .int b), (3, .ref 64)]) (st' := [.int 3]) (w' := (SH, S1, T)) rfl ?_
      exact xj_E.ret rfl rfl rfl rfl (h1 ht)
    · have eq : q = 1 := by omega
      subst eq
      refine ⟨rfl, ?_⟩
      show xj_wok (SH, S1, T) = true ∧ xj_E (xX L xs) (D + 1) 119 17 [(0, .ref 0), (1, .int a), (2, .int b), (3, .ref 64)] [.ref 4096] (SH, S1, T) _
      refine ⟨rfl, ?_⟩
      refine xj_E.adv 2 (pc' := 20) (ls' := [(4, .ref 4096), (0, .ref 0), (1, .int a), (2, .int b), (3, .ref 64)]) (st' := [.int 2]) (w' := (SH, S1, T)) rfl ?_
      exact xj_E.ret rfl rfl rfl rfl (h2 ht)
    · have eq : q = 2 := by omega
      subst eq
      refine ⟨rfl, ?_⟩
      show xj_wok (SH, S1, T) = true ∧ xj_E (xX L xs) (D + 1) 119 25 [(0, .ref 0), (1, .int a), (2, .int b), (3, .ref 64)] [.ref 4096] (SH, S1, T) _
      refine ⟨rfl, ?_⟩
      refine xj_E.adv 2 (pc' := 28) (ls' := [(4, .ref 4096), (0, .ref 0), (1, .int a), (2, .int b), (3, .ref 64)]) (st' := [.int 4]) (w' := (SH, S1, T)) rfl ?_
      exact xj_E.ret rfl rfl rfl rfl (h3 ht)
    · have eq : q = 3 := by omega
      subst eq
      refine ⟨rfl, ?_⟩
      show xj_wok (SH, S1, T) = true ∧ xj_E (xX L xs) (D + 1) 119 13 [(0, .ref 0), (1, .int a), (2, .int b), (3, .ref 64)] [.ref 4096] (SH, S1, T) _
      refine ⟨rfl, ?_⟩
      refine xj_E.adv 2 (pc' := 16) (ls' := [(4, .ref 4096), (0, .ref 0), (1, .int a), (2, .int b), (3, .ref 64)]) (st' := [.int 1]) (w' := (SH, S1, T)) rfl ?_
      exact xj_E.ret rfl rfl rfl rfl (h4 ht)
set_option maxRecDepth 100000 in
theorem ok_w_set {L : Nat} {xs : Nat → Int32} {T : Nat → Nat → Int64} {D : Nat} {S : (Nat → Nat → Int32)} {P : (Option Value ⊕ Nat) → xj_W → Nat → Nat → Prop} {a b : Int32} {tag : Nat} {v : Int32} {S9 : Nat → Nat → Int32} (hD : 606 ≤ D) (hd : d_c_set a b S) (hf : f_c_set a b S = (tag, v, S9)) (ht : tag = 0 ∨ tag = 2 ∨ tag = 3) (h0 : tag = 0 → P (.inl (some (.int 0))) (SH, S9, xj_setL T 64 0 v.toInt64) 0 0) (h2 : tag = 2 → P (.inl (some (.int 1))) (SH, S9, T) 1 6) (h3 : tag = 3 → P (.inl (some (.int 2))) (SH, S9, T) 1 6) : xj_E (xX L xs) (D + 1) 120 0 [(0, .ref 0), (1, .int a), (2, .int b), (3, .ref 64)] [] (SH, S, T) P := by
  refine xj_E.adv 5 (pc' := 5) (ls' := [(0, .ref 0), (1, .int a), (2, .int b), (3, .ref 64)]) (st' := [.int b, .int a, .ref 0, .int 0, .ref 64]) (w' := (SH, S, T)) rfl ?_
  refine xj_E.call rfl rfl rfl rfl rfl (ok_c_set hD hd ?_ ?_)
  · intro v1 S1 e
    rw [hf] at e
    obtain ⟨e1, e2⟩ := Prod.mk.inj e
    obtain ⟨e2, e3⟩ := Prod.mk.inj e2
    subst e2
    subst e3
    show xj_E (xX L xs) (D + 1) 120 8 [(0, .ref 0), (1, .int a), (2, .int b), (3, .ref 64)] [.int v1, .int 0, .ref 64] (SH, S1, T) _
    refine xj_E.adv 4 (pc' := 22) (ls' := [(0, .ref 0), (1, .int a), (2, .int b), (3, .ref 64)]) (st' := [.int 0]) (w' := (SH, S1, xj_setL T 64 0 v1.toInt64)) rfl ?_
    exact xj_E.ret rfl rfl rfl rfl (h0 e1.symm)
  · intro q v1 S1 e
    rw [hf] at e
    obtain ⟨e1, e2⟩ := Prod.mk.inj e
    obtain ⟨e2, e3⟩ := Prod.mk.inj e2
    subst e2
    subst e3
    rcases ht with ht | ht | ht
    · exact absurd (e1.trans ht) (Nat.succ_ne_zero q)
    · have eq : q = 1 := by omega
      subst eq
      refine ⟨rfl, ?_⟩
      show xj_wok (SH, S1, T) = true ∧ xj_E (xX L xs) (D + 1) 120 13 [(0, .ref 0), (1, .int a), (2, .int b), (3, .ref 64)] [.ref 4096] (SH, S1, T) _
      refine ⟨rfl, ?_⟩
      refine xj_E.adv 2 (pc' := 16) (ls' := [(4, .ref 4096), (0, .ref 0), (1, .int a), (2, .int b), (3, .ref 64)]) (st' := [.int 1]) (w' := (SH, S1, T)) rfl ?_
      exact xj_E.ret rfl rfl rfl rfl (h2 ht)
    · have eq : q = 2 := by omega
      subst eq
      refine ⟨rfl, ?_⟩
      show xj_wok (SH, S1, T) = true ∧ xj_E (xX L xs) (D + 1) 120 17 [(0, .ref 0), (1, .int a), (2, .int b), (3, .ref 64)] [.ref 4096] (SH, S1, T) _
      refine ⟨rfl, ?_⟩
      refine xj_E.adv 2 (pc' := 20) (ls' := [(4, .ref 4096), (0, .ref 0), (1, .int a), (2, .int b), (3, .ref 64)]) (st' := [.int 2]) (w' := (SH, S1, T)) rfl ?_
      exact xj_E.ret rfl rfl rfl rfl (h3 ht)
