/-! the wrappers of the law -/
set_option maxRecDepth 100000 in
theorem ok_w_item {L : Nat} {xs : Nat → Int32} {T : Nat → Nat → Int64} {D : Nat} {S : (Nat → Nat → Int32)} {P : (Option Value ⊕ Nat) → xj_W → Nat → Nat → Prop} {a b c : Int32} {tag : Nat} {v : Int32} {S9 : Nat → Nat → Int32} (hD : 2 ≤ D) (hd : d_c_item a b c S) (hf : f_c_item a b c S = (tag, v, S9)) (ht : tag = 0 ∨ tag = 1 ∨ tag = 2) (h0 : tag = 0 → P (.inl (some (.int 0))) (SH, S9, xj_setL T 64 0 v.toInt64) 0 0) (h1 : tag = 1 → P (.inl (some (.int 1))) (SH, S9, T) 1 6) (h2 : tag = 2 → P (.inl (some (.int 2))) (SH, S9, T) 1 6) : xj_E (xX L xs) (D + 1) 114 0 [(0, .ref 0), (1, .int a), (2, .int b), (3, .int c), (4, .ref 64)] [] (SH, S, T) P := by
  refine xj_E.adv 6 (pc' := 7) (ls' := [(0, .ref 0), (1, .int a), (2, .int b), (3, .int c), (4, .ref 64)]) (st' := [.int c, .int b, .int a, .ref 0, .int 0, .ref 64]) (w' := (SH, S, T)) rfl ?_
  refine xj_E.call rfl rfl rfl rfl rfl (ok_c_item hD hd ?_ ?_)
  · intro v1 S1 e
    rw [hf] at e
    obtain ⟨e1, e2⟩ := Prod.mk.inj e
    obtain ⟨e2, e3⟩ := Prod.mk.inj e2
    subst e2
    subst e3
    show xj_E (xX L xs) (D + 1) 114 10 [(0, .ref 0), (1, .int a), (2, .int b), (3, .int c), (4, .ref 64)] [.int v1, .int 0, .ref 64] (SH, S1, T) _
    refine xj_E.adv 4 (pc' := 24) (ls' := [(0, .ref 0), (1, .int a), (2, .int b), (3, .int c), (4, .ref 64)]) (st' := [.int 0]) (w' := (SH, S1, xj_setL T 64 0 v1.toInt64)) rfl ?_
    exact xj_E.ret rfl rfl rfl rfl (h0 e1.symm)
  · intro q v1 S1 e
    rw [hf] at e
    obtain ⟨e1, e2⟩ := Prod.mk.inj e
    obtain ⟨e2, e3⟩ := Prod.mk.inj e2
    subst e2
    subst e3
    rcases ht with ht | ht | ht
    · exact absurd (e1.trans ht) (Nat.succ_ne_zero q)
    · have eq : q = 0 := by omega
      subst eq
      refine ⟨rfl, ?_⟩
      show xj_wok (SH, S1, T) = true ∧ xj_E (xX L xs) (D + 1) 114 15 [(0, .ref 0), (1, .int a), (2, .int b), (3, .int c), (4, .ref 64)] [.ref 4096] (SH, S1, T) _
      refine ⟨rfl, ?_⟩
      refine xj_E.adv 2 (pc' := 18) (ls' := [(5, .ref 4096), (0, .ref 0), (1, .int a), (2, .int b), (3, .int c), (4, .ref 64)]) (st' := [.int 1]) (w' := (SH, S1, T)) rfl ?_
      exact xj_E.ret rfl rfl rfl rfl (h1 ht)
    · have eq : q = 1 := by omega
      subst eq
      refine ⟨rfl, ?_⟩
      show xj_wok (SH, S1, T) = true ∧ xj_E (xX L xs) (D + 1) 114 19 [(0, .ref 0), (1, .int a), (2, .int b), (3, .int c), (4, .ref 64)] [.ref 4096] (SH, S1, T) _
      refine ⟨rfl, ?_⟩
      refine xj_E.adv 2 (pc' := 22) (ls' := [(5, .ref 4096), (0, .ref 0), (1, .int a), (2, .int b), (3, .int c), (4, .ref 64)]) (st' := [.int 2]) (w' := (SH, S1, T)) rfl ?_
      exact xj_E.ret rfl rfl rfl rfl (h2 ht)
set_option maxRecDepth 100000 in
theorem ok_w_sentry {L : Nat} {xs : Nat → Int32} {T : Nat → Nat → Int64} {D : Nat} {S : (Nat → Nat → Int32)} {P : (Option Value ⊕ Nat) → xj_W → Nat → Nat → Prop} {a b : Int32} {tag : Nat} {v : Int32} {S9 : Nat → Nat → Int32} (hD : 2 ≤ D) (hd : d_c_sentry a b S) (hf : f_c_sentry a b S = (tag, v, S9)) (ht : tag = 0 ∨ tag = 1 ∨ tag = 2) (h0 : tag = 0 → P (.inl (some (.int 0))) (SH, S9, xj_setL T 64 0 v.toInt64) 0 0) (h1 : tag = 1 → P (.inl (some (.int 1))) (SH, S9, T) 1 6) (h2 : tag = 2 → P (.inl (some (.int 2))) (SH, S9, T) 1 6) : xj_E (xX L xs) (D + 1) 115 0 [(0, .ref 0), (1, .int a), (2, .int b), (3, .ref 64)] [] (SH, S, T) P := by
  refine xj_E.adv 5 (pc' := 5) (ls' := [(0, .ref 0), (1, .int a), (2, .int b), (3, .ref 64)]) (st' := [.int b, .int a, .ref 0, .int 0, .ref 64]) (w' := (SH, S, T)) rfl ?_
  refine xj_E.call rfl rfl rfl rfl rfl (ok_c_sentry hD hd ?_ ?_)
  · intro v1 S1 e
    rw [hf] at e
    obtain ⟨e1, e2⟩ := Prod.mk.inj e
    obtain ⟨e2, e3⟩ := Prod.mk.inj e2
    subst e2
    subst e3
    show xj_E (xX L xs) (D + 1) 115 8 [(0, .ref 0), (1, .int a), (2, .int b), (3, .ref 64)] [.int v1, .int 0, .ref 64] (SH, S1, T) _
    refine xj_E.adv 4 (pc' := 22) (ls' := [(0, .ref 0), (1, .int a), (2, .int b), (3, .ref 64)]) (st' := [.int 0]) (w' := (SH, S1, xj_setL T 64 0 v1.toInt64)) rfl ?_
    exact xj_E.ret rfl rfl rfl rfl (h0 e1.symm)
  · intro q v1 S1 e
    rw [hf] at e
    obtain ⟨e1, e2⟩ := Prod.mk.inj e
    obtain ⟨e2, e3⟩ := Prod.mk.inj e2
    subst e2
    subst e3
    rcases ht with ht | ht | ht
    · exact absurd (e1.trans ht) (Nat.succ_ne_zero q)
    · have eq : q = 0 := by omega
      subst eq
      refine ⟨rfl, ?_⟩
      show xj_wok (SH, S1, T) = true ∧ xj_E (xX L xs) (D + 1) 115 13 [(0, .ref 0), (1, .int a), (2, .int b), (3, .ref 64)] [.ref 4096] (SH, S1, T) _
      refine ⟨rfl, ?_⟩
      refine xj_E.adv 2 (pc' := 16) (ls' := [(4, .ref 4096), (0, .ref 0), (1, .int a), (2, .int b), (3, .ref 64)]) (st' := [.int 1]) (w' := (SH, S1, T)) rfl ?_
      exact xj_E.ret rfl rfl rfl rfl (h1 ht)
    · have eq : q = 1 := by omega
      subst eq
      refine ⟨rfl, ?_⟩
      show xj_wok (SH, S1, T) = true ∧ xj_E (xX L xs) (D + 1) 115 17 [(0, .ref 0), (1, .int a), (2, .int b), (3, .ref 64)] [.ref 4096] (SH, S1, T) _
      refine ⟨rfl, ?_⟩
      refine xj_E.adv 2 (pc' := 20) (ls' := [(4, .ref 4096), (0, .ref 0), (1, .int a), (2, .int b), (3, .ref 64)]) (st' := [.int 2]) (w' := (SH, S1, T)) rfl ?_
      exact xj_E.ret rfl rfl rfl rfl (h2 ht)
set_option maxRecDepth 100000 in
theorem ok_w_on {L : Nat} {xs : Nat → Int32} {T : Nat → Nat → Int64} {D : Nat} {S : (Nat → Nat → Int32)} {P : (Option Value ⊕ Nat) → xj_W → Nat → Nat → Prop} {a b c : Int32} {tag : Nat} {v : Int32} {S9 : Nat → Nat → Int32} (hD : 2 ≤ D) (hd : d_c_on a b c S) (hf : f_c_on a b c S = (tag, v, S9)) (ht : tag = 0 ∨ tag = 1 ∨ tag = 2) (h0 : tag = 0 → P (.inl (some (.int 0))) (SH, S9, xj_setL T 64 0 v.toInt64) 0 0) (h1 : tag = 1 → P (.inl (some (.int 1))) (SH, S9, T) 1 6) (h2 : tag = 2 → P (.inl (some (.int 2))) (SH, S9, T) 1 6) : xj_E (xX L xs) (D + 1) 116 0 [(0, .ref 0), (1, .int a), (2, .int b), (3, .int c), (4, .ref 64)] [] (SH, S, T) P := by
  refine xj_E.adv 6 (pc' := 7) (ls' := [(0, .ref 0), (1, .int a), (2, .int b), (3, .int c), (4, .ref 64)]) (st' := [.int c, .int b, .int a, .ref 0, .int 0, .ref 64]) (w' := (SH, S, T)) rfl ?_
  refine xj_E.call rfl rfl rfl rfl rfl (ok_c_on hD hd ?_ ?_)
  · intro v1 S1 e
    rw [hf] at e
    obtain ⟨e1, e2⟩ := Prod.mk.inj e
    obtain ⟨e2, e3⟩ := Prod.mk.inj e2
    subst e2
    subst e3
    show xj_E (xX L xs) (D + 1) 116 10 [(0, .ref 0), (1, .int a), (2, .int b), (3, .int c), (4, .ref 64)] [.int v1, .int 0, .ref 64] (SH, S1, T) _
    refine xj_E.adv 4 (pc' := 24) (ls' := [(0, .ref 0), (1, .int a), (2, .int b), (3, .int c), (4, .ref 64)]) (st' := [.int 0]) (w' := (SH, S1, xj_setL T 64 0 v1.toInt64)) rfl ?_
    exact xj_E.ret rfl rfl rfl rfl (h0 e1.symm)
  · intro q v1 S1 e
    rw [hf] at e
    obtain ⟨e1, e2⟩ := Prod.mk.inj e
    obtain ⟨e2, e3⟩ := Prod.mk.inj e2
    subst e2
    subst e3
    rcases ht with ht | ht | ht
    · exact absurd (e1.trans ht) (Nat.succ_ne_zero q)
    · have eq : q = 0 := by omega
      subst eq
      refine ⟨rfl, ?_⟩
      show xj_wok (SH, S1, T) = true ∧ xj_E (xX L xs) (D + 1) 116 15 [(0, .ref 0), (1, .int a), (2, .int b), (3, .int c), (4, .ref 64)] [.ref 4096] (SH, S1, T) _
      refine ⟨rfl, ?_⟩
      refine xj_E.adv 2 (pc' := 18) (ls' := [(5, .ref 4096), (0, .ref 0), (1, .int a), (2, .int b), (3, .int c), (4, .ref 64)]) (st' := [.int 1]) (w' := (SH, S1, T)) rfl ?_
      exact xj_E.ret rfl rfl rfl rfl (h1 ht)
    · have eq : q = 1 := by omega
      subst eq
      refine ⟨rfl, ?_⟩
      show xj_wok (SH, S1, T) = true ∧ xj_E (xX L xs) (D + 1) 116 19 [(0, .ref 0), (1, .int a), (2, .int b), (3, .int c), (4, .ref 64)] [.ref 4096] (SH, S1, T) _
      refine ⟨rfl, ?_⟩
      refine xj_E.adv 2 (pc' := 22) (ls' := [(5, .ref 4096), (0, .ref 0), (1, .int a), (2, .int b), (3, .int c), (4, .ref 64)]) (st' := [.int 2]) (w' := (SH, S1, T)) rfl ?_
      exact xj_E.ret rfl rfl rfl rfl (h2 ht)
set_option maxRecDepth 100000 in
theorem ok_w_when {L : Nat} {xs : Nat → Int32} {T : Nat → Nat → Int64} {D : Nat} {S : (Nat → Nat → Int32)} {P : (Option Value ⊕ Nat) → xj_W → Nat → Nat → Prop} {a b c d : Int32} {tag : Nat} {v : Int32} {S9 : Nat → Nat → Int32} (hD : 1 ≤ D) (hd : d_c_when a b c d S) (hf : f_c_when a b c d S = (tag, v, S9)) (ht : tag = 0 ∨ tag = 1 ∨ tag = 2) (h0 : tag = 0 → P (.inl (some (.int 0))) (SH, S9, T) 0 0) (h1 : tag = 1 → P (.inl (some (.int 1))) (SH, S9, T) 1 6) (h2 : tag = 2 → P (.inl (some (.int 2))) (SH, S9, T) 1 6) : xj_E (xX L xs) (D + 1) 117 0 [(0, .ref 0), (1, .int a), (2, .int b), (3, .int c), (4, .int d)] [] (SH, S, T) P := by
  refine xj_E.adv 5 (pc' := 6) (ls' := [(0, .ref 0), (1, .int a), (2, .int b), (3, .int c), (4, .int d)]) (st' := [.int d, .int c, .int b, .int a, .ref 0]) (w' := (SH, S, T)) rfl ?_
  refine xj_E.call rfl rfl rfl rfl rfl (ok_c_when hD hd ?_ ?_)
  · intro v1 S1 e
    rw [hf] at e
    obtain ⟨e1, e2⟩ := Prod.mk.inj e
    obtain ⟨e2, e3⟩ := Prod.mk.inj e2
    subst e2
    subst e3
    show xj_E (xX L xs) (D + 1) 117 9 [(0, .ref 0), (1, .int a), (2, .int b), (3, .int c), (4, .int d)] [] (SH, S1, T) _
    refine xj_E.adv 2 (pc' := 21) (ls' := [(0, .ref 0), (1, .int a), (2, .int b), (3, .int c), (4, .int d)]) (st' := [.int 0]) (w' := (SH, S1, T)) rfl ?_
    exact xj_E.ret rfl rfl rfl rfl (h0 e1.symm)
  · intro q v1 S1 e
    rw [hf] at e
    obtain ⟨e1, e2⟩ := Prod.mk.inj e
    obtain ⟨e2, e3⟩ := Prod.mk.inj e2
    subst e2
    subst e3
    rcases ht with ht | ht | ht
    · exact absurd (e1.trans ht) (Nat.succ_ne_zero q)
    · have eq : q = 0 := by omega
      subst eq
      refine ⟨rfl, ?_⟩
      show xj_wok (SH, S1, T) = true ∧ xj_E (xX L xs) (D + 1) 117 12 [(0, .ref 0), (1, .int a), (2, .int b), (3, .int c), (4, .int d)] [.ref 4096] (SH, S1, T) _
      refine ⟨rfl, ?_⟩
      refine xj_E.adv 2 (pc' := 15) (ls' := [(5, .ref 4096), (0, .ref 0), (1, .int a), (2, .int b), (3, .int c), (4, .int d)]) (st' := [.int 1]) (w' := (SH, S1, T)) rfl ?_
      exact xj_E.ret rfl rfl rfl rfl (h1 ht)
    · have eq : q = 1 := by omega
      subst eq
      refine ⟨rfl, ?_⟩
      show xj_wok (SH, S1, T) = true ∧ xj_E (xX L xs) (D + 1) 117 16 [(0, .ref 0), (1, .int a), (2, .int b), (3, .int c), (4, .int d)] [.ref 4096] (SH, S1, T) _
      refine ⟨rfl, ?_⟩
      refine xj_E.adv 2 (pc' := 19) (ls' := [(5, .ref 4096), (0, .ref 0), (1, .int a), (2, .int b), (3, .int c), (4, .int d)]) (st' := [.int 2]) (w' := (SH, S1, T)) rfl ?_
      exact xj_E.ret rfl rfl rfl rfl (h2 ht)
set_option maxRecDepth 100000 in
theorem ok_w_begin {L : Nat} {xs : Nat → Int32} {T : Nat → Nat → Int64} {D : Nat} {S : (Nat → Nat → Int32)} {P : (Option Value ⊕ Nat) → xj_W → Nat → Nat → Prop} {a : Int32} {tag : Nat} {v : Int32} {S9 : Nat → Nat → Int32} (hD : 606 ≤ D) (hd : d_c_begin a S) (hf : f_c_begin a S = (tag, v, S9)) (ht : tag = 0 ∨ tag = 1 ∨ tag = 2 ∨ tag = 3) (h0 : tag = 0 → P (.inl (some (.int 0))) (SH, S9, xj_setL T 64 0 v.toInt64) 0 0) (h1 : tag = 1 → P (.inl (some (.int 1))) (SH, S9, T) 1 6) (h2 : tag = 2 → P (.inl (some (.int 2))) (SH, S9, T) 1 6) (h3 : tag = 3 → P (.inl (some (.int 3))) (SH, S9, T) 1 6) : xj_E (xX L xs) (D + 1) 118 0 [(0, .ref 0), (1, .int a), (2, .ref 64)] [] (SH, S, T) P := by
  refine xj_E.adv 4 (pc' := 4) (ls' := [(0, .ref 0), (1, .int a), (2, .ref 64)]) (st' := [.int a, .ref 0, .int 0, .ref 64]) (w' := (SH, S, T)) rfl ?_
  refine xj_E.call rfl rfl rfl rfl rfl (ok_c_begin hD hd ?_ ?_)
  · intro v1 S1 e
    rw [hf] at e
    obtain ⟨e1, e2⟩ := Prod.mk.inj e
    obtain ⟨e2, e3⟩ := Prod.mk.inj e2
    subst e2
    subst e3
    show xj_E (xX L xs) (D + 1) 118 7 [(0, .ref 0), (1, .int a), (2, .ref 64)] [.int v1, .int 0, .ref 64] (SH, S1, T) _
    refine xj_E.adv 4 (pc' := 22) (ls' := [(0, .ref 0), (1, .int a), (2, .ref 64)]) (st' := [.int 0]) (w' := (SH, S1, xj_setL T 64 0 v1.toInt64)) rfl ?_
    exact xj_E.ret rfl rfl rfl rfl (h0 e1.symm)
  · intro q v1 S1 e
    rw [hf] at e
    obtain ⟨e1, e2⟩ := Prod.mk.inj e
    obtain ⟨e2, e3⟩ := Prod.mk.inj e2
    subst e2
    subst e3
    rcases ht with ht | ht | ht | ht
    · exact absurd (e1.trans ht) (Nat.succ_ne_zero q)
    · have eq : q = 0 := by omega
      subst eq
      refine ⟨rfl, ?_⟩
      show xj_wok (SH, S1, T) = true ∧ xj_E (xX L xs) (D + 1) 118 12 [(0, .ref 0), (1, .int a), (2, .ref 64)] [.ref 4096] (SH, S1, T) _
      refine ⟨rfl, ?_⟩
      refine xj_E.adv 2 (pc' := 14) (ls' := [(3, .ref 4096), (0, .ref 0), (1, .int a), (2, .ref 64)]) (st' := [.int 1]) (w' := (SH, S1, T)) rfl ?_
      exact xj_E.ret rfl rfl rfl rfl (h1 ht)
    · have eq : q = 1 := by omega
      subst eq
      refine ⟨rfl, ?_⟩
      show xj_wok (SH, S1, T) = true ∧ xj_E (xX L xs) (D + 1) 118 15 [(0, .ref 0), (1, .int a), (2, .ref 64)] [.ref 4096] (SH, S1, T) _
      refine ⟨rfl, ?_⟩
      refine xj_E.adv 2 (pc' := 17) (ls' := [(3, .ref 4096), (0, .ref 0), (1, .int a), (2, .ref 64)]) (st' := [.int 2]) (w' := (SH, S1, T)) rfl ?_
      exact xj_E.ret rfl rfl rfl rfl (h2 ht)
    · have eq : q = 2 := by omega
      subst eq
      refine ⟨rfl, ?_⟩
      show xj_wok (SH, S1, T) = true ∧ xj_E (xX L xs) (D + 1) 118 18 [(0, .ref 0), (1, .int a), (2, .ref 64)] [.ref 4096] (SH, S1, T) _
      refine ⟨rfl, ?_⟩
      refine xj_E.adv 2 (pc' := 20) (ls' := [(3, .ref 4096), (0, .ref 0), (1, .int a), (2, .ref 64)]) (st' := [.int 3]) (w' := (SH, S1, T)) rfl ?_
      exact xj_E.ret rfl rfl rfl rfl (h3 ht)
set_option maxRecDepth 100000 in
theorem ok_w_move {L : Nat} {xs : Nat → Int32} {T : Nat → Nat → Int64} {D : Nat} {S : (Nat → Nat → Int32)} {P : (Option Value ⊕ Nat) → xj_W → Nat → Nat → Prop} {a b : Int32} {tag : Nat} {v : Int32} {S9 : Nat → Nat → Int32} (hD : 606 ≤ D) (hd : d_c_move a b S) (hf : f_c_move a b S = (tag, v, S9)) (ht : tag = 0 ∨ tag = 1 ∨ tag = 2 ∨ tag = 3 ∨ tag = 4) (h0 : tag = 0 → P (.inl (some (.int 0))) (SH, S9, xj_setL T 64 0 v.toInt64) 0 0) (h1 : tag = 1 → P (.inl (some (.int 3))) (SH, S9, T) 1 6) (h2 : tag = 2 → P (.inl (some (.int 2))) (SH, S9, T) 1 6) (h3 : tag = 3 → P (.inl (some (.int 4))) (SH, S9, T) 1 6) (h4 : tag = 4 → P (.inl (some (.int 1))) (SH, S9, T) 1 6) : xj_E (xX L xs) (D + 1) 119 0 [(0, .ref 0), (1, .int a), (2, .int b), (3, .ref 64)] [] (SH, S, T) P := by
  refine xj_E.adv 5 (pc' := 5) (ls' := [(0, .ref 0), (1, .int a), (2, .int b), (3, .ref 64)]) (st' := [.int b, .int a, .ref 0, .int 0, .ref 64]) (w' := (SH, S, T)) rfl ?_
  refine xj_E.call rfl rfl rfl rfl rfl (ok_c_move hD hd ?_ ?_)
  · intro v1 S1 e
    rw [hf] at e
    obtain ⟨e1, e2⟩ := Prod.mk.inj e
    obtain ⟨e2, e3⟩ := Prod.mk.inj e2
    subst e2
    subst e3
    show xj_E (xX L xs) (D + 1) 119 8 [(0, .ref 0), (1, .int a), (2, .int b), (3, .ref 64)] [.int v1, .int 0, .ref 64] (SH, S1, T) _
    refine xj_E.adv 4 (pc' := 30) (ls' := [(0, .ref 0), (1, .int a), (2, .int b), (3, .ref 64)]) (st' := [.int 0]) (w' := (SH, S1, xj_setL T 64 0 v1.toInt64)) rfl ?_
    exact xj_E.ret rfl rfl rfl rfl (h0 e1.symm)
  · intro q v1 S1 e
    rw [hf] at e
    obtain ⟨e1, e2⟩ := Prod.mk.inj e
    obtain ⟨e2, e3⟩ := Prod.mk.inj e2
    subst e2
    subst e3
    rcases ht with ht | ht | ht | ht | ht
    · exact absurd (e1.trans ht) (Nat.succ_ne_zero q)
    · have eq : q = 0 := by omega
      subst eq
      refine ⟨rfl, ?_⟩
      show xj_wok (SH, S1, T) = true ∧ xj_E (xX L xs) (D + 1) 119 21 [(0, .ref 0), (1, .int a), (2, .int b), (3, .ref 64)] [.ref 4096] (SH, S1, T) _
      refine ⟨rfl, ?_⟩
      refine xj_E.adv 2 (pc' := 24) (ls' := [(4, .ref 4096), (0, .ref 0), (1, .int a), (2, .int b), (3, .ref 64)]) (st' := [.int 3]) (w' := (SH, S1, T)) rfl ?_
      exact xj_E.ret rfl rfl rfl rfl (h1 ht)
    · have eq : q = 1 := by omega
      subst eq
      refine ⟨rfl, ?_⟩
      show xj_wok (SH, S1, T) = true ∧ xj_E (xX L xs) (D + 1) 119 17 [(0, .ref 0), (1, .int a), (2, .int b), (3, .ref 64)] [.ref 4096] (SH, S1, T) _
      refine ⟨rfl, ?_⟩
      refine xj_E.adv 2 (pc' := 20) (ls' := [(4, .ref 4096), (0, .ref 0), (1, .int a), (2, .int b), (3, .ref 64)]) (st' := [.int 2]) (w' := (SH, S1, T)) rfl ?_
      exact xj_E.ret rfl rfl rfl rfl (h2 ht)
    · have eq : q = 2 := by omega
      subst eq
      refine ⟨rfl, ?_⟩
      show xj_wok (SH, S1, T) = true ∧ xj_E (xX L xs) (D + 1) 119 25 [(0, .ref 0), (1, .int a), (2, .int b), (3, .ref 64)] [.ref 4096] (SH, S1, T) _
      refine ⟨rfl, ?_⟩
      refine xj_E.adv 2 (pc' := 28) (ls' := [(4, .ref 4096), (0, .ref 0), (1, .int a), (2, .int b), (3, .ref 64)]) (st' := [.int 4]) (w' := (SH, S1, T)) rfl ?_
      exact xj_E.ret rfl rfl rfl rfl (h3 ht)
    · have eq : q = 3 := by omega
      subst eq
      refine ⟨rfl, ?_⟩
      show xj_wok (SH, S1, T) = true ∧ xj_E (xX L xs) (D + 1) 119 13 [(0, .ref 0), (1, .int a), (2, .int b), (3, .ref 64)] [.ref 4096] (SH, S1, T) _
      refine ⟨rfl, ?_⟩
      refine xj_E.adv 2 (pc' := 16) (ls' := [(4, .ref 4096), (0, .ref 0), (1, .int a), (2, .int b), (3, .ref 64)]) (st' := [.int 1]) (w' := (SH, S1, T)) rfl ?_
      exact xj_E.ret rfl rfl rfl rfl (h4 ht)
set_option maxRecDepth 100000 in
theorem ok_w_set {L : Nat} {xs : Nat → Int32} {T : Nat → Nat → Int64} {D : Nat} {S : (Nat → Nat → Int32)} {P : (Option Value ⊕ Nat) → xj_W → Nat → Nat → Prop} {a b : Int32} {tag : Nat} {v : Int32} {S9 : Nat → Nat → Int32} (hD : 606 ≤ D) (hd : d_c_set a b S) (hf : f_c_set a b S = (tag, v, S9)) (ht : tag = 0 ∨ tag = 2 ∨ tag = 3) (h0 : tag = 0 → P (.inl (some (.int 0))) (SH, S9, xj_setL T 64 0 v.toInt64) 0 0) (h2 : tag = 2 → P (.inl (some (.int 1))) (SH, S9, T) 1 6) (h3 : tag = 3 → P (.inl (some (.int 2))) (SH, S9, T) 1 6) : xj_E (xX L xs) (D + 1) 120 0 [(0, .ref 0), (1, .int a), (2, .int b), (3, .ref 64)] [] (SH, S, T) P := by
  refine xj_E.adv 5 (pc' := 5) (ls' := [(0, .ref 0), (1, .int a), (2, .int b), (3, .ref 64)]) (st' := [.int b, .int a, .ref 0, .int 0, .ref 64]) (w' := (SH, S, T)) rfl ?_
  refine xj_E.call rfl rfl rfl rfl rfl (ok_c_set hD hd ?_ ?_)
  · intro v1 S1 e
    rw [hf] at e
    obtain ⟨e1, e2⟩ := Prod.mk.inj e
    obtain ⟨e2, e3⟩ := Prod.mk.inj e2
    subst e2
    subst e3
    show xj_E (xX L xs) (D + 1) 120 8 [(0, .ref 0), (1, .int a), (2, .int b), (3, .ref 64)] [.int v1, .int 0, .ref 64] (SH, S1, T) _
    refine xj_E.adv 4 (pc' := 22) (ls' := [(0, .ref 0), (1, .int a), (2, .int b), (3, .ref 64)]) (st' := [.int 0]) (w' := (SH, S1, xj_setL T 64 0 v1.toInt64)) rfl ?_
    exact xj_E.ret rfl rfl rfl rfl (h0 e1.symm)
  · intro q v1 S1 e
    rw [hf] at e
    obtain ⟨e1, e2⟩ := Prod.mk.inj e
    obtain ⟨e2, e3⟩ := Prod.mk.inj e2
    subst e2
    subst e3
    rcases ht with ht | ht | ht
    · exact absurd (e1.trans ht) (Nat.succ_ne_zero q)
    · have eq : q = 1 := by omega
      subst eq
      refine ⟨rfl, ?_⟩
      show xj_wok (SH, S1, T) = true ∧ xj_E (xX L xs) (D + 1) 120 13 [(0, .ref 0), (1, .int a), (2, .int b), (3, .ref 64)] [.ref 4096] (SH, S1, T) _
      refine ⟨rfl, ?_⟩
      refine xj_E.adv 2 (pc' := 16) (ls' := [(4, .ref 4096), (0, .ref 0), (1, .int a), (2, .int b), (3, .ref 64)]) (st' := [.int 1]) (w' := (SH, S1, T)) rfl ?_
      exact xj_E.ret rfl rfl rfl rfl (h2 ht)
    · have eq : q = 2 := by omega
      subst eq
      refine ⟨rfl, ?_⟩
      show xj_wok (SH, S1, T) = true ∧ xj_E (xX L xs) (D + 1) 120 17 [(0, .ref 0), (1, .int a), (2, .int b), (3, .ref 64)] [.ref 4096] (SH, S1, T) _
      refine ⟨rfl, ?_⟩
      refine xj_E.adv 2 (pc' := 20) (ls' := [(4, .ref 4096), (0, .ref 0), (1, .int a), (2, .int b), (3, .ref 64)]) (st' := [.int 2]) (w' := (SH, S1, T)) rfl ?_
      exact xj_E.ret rfl rfl rfl rfl (h3 ht)
