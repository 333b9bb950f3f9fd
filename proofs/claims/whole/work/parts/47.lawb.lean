/-! the law: the class is called, then the model -/
set_option maxRecDepth 100000 in
theorem lc_item {L : Nat} {xs : Nat → Int32} {T : Nat → Nat → Int64} {k n : Nat} {S : Nat → Nat → Int32} {t : Int32} (hL : L ≤ 2560) (hk : k + 5 ≤ L) (hA : yA S S t) (ht : t ≤ 900000) (ht0 : 0 ≤ t) (hK : ∀ S2 T2, yA S2 S2 (t + 60) → xj_E (xX L xs) 700 0 23 [(0, .ref 1000), (1, .ref 0), (2, .ref 32), (3, .ref 64), (4, .int (nI k + 5))] [] (SH, S2, T2) (fun o _ c z => o = .inl (some (.int 1)) ∧ c ≤ n ∧ z ≤ 6 * (n))) : xj_E (xX L xs) 700 0 108 [(0, .ref 1000), (1, .ref 0), (2, .ref 32), (3, .ref 64), (4, .int (nI k))] [] (SH, S, T) (fun o _ c z => o = .inl (some (.int 1)) ∧ c ≤ n + 1 ∧ z ≤ 6 * (n + 1)) := by
  obtain ⟨tag, v, S1, r, S2, o1, o2, o3, o4, o5, o6⟩ := os_item (a := xs (nI k + 1).toNatClampNeg) (b := xs (nI k + 2).toNatClampNeg) (c := xs (nI k + 3).toNatClampNeg) hA ht ht0
  have tg : tag = 0 ∨ tag = 1 ∨ tag = 2 := by
    rcases o6 with h | h | h <;> simp [h.1]
  refine xj_E.adv 5 (pc' := 114) (ls' := [(0, .ref 1000), (1, .ref 0), (2, .ref 32), (3, .ref 64), (4, .int (nI k))]) (st' := [.int (nI k + 1), .ref 1000, .ref 0]) (w' := (SH, S, T)) rfl ?_
  refine xj_E.igiv rfl rfl rfl (lw_v hL 1 (by omega)) ?_
  refine xj_E.adv 4 (pc' := 120) (ls' := [(0, .ref 1000), (1, .ref 0), (2, .ref 32), (3, .ref 64), (4, .int (nI k))]) (st' := [.int (nI k + 2), .ref 1000, .int (xs (nI k + 1).toNatClampNeg), .ref 0]) (w' := (SH, S, T)) rfl ?_
  refine xj_E.igiv rfl rfl rfl (lw_v hL 2 (by omega)) ?_
  refine xj_E.adv 4 (pc' := 126) (ls' := [(0, .ref 1000), (1, .ref 0), (2, .ref 32), (3, .ref 64), (4, .int (nI k))]) (st' := [.int (nI k + 3), .ref 1000, .int (xs (nI k + 2).toNatClampNeg), .int (xs (nI k + 1).toNatClampNeg), .ref 0]) (w' := (SH, S, T)) rfl ?_
  refine xj_E.igiv rfl rfl rfl (lw_v hL 3 (by omega)) ?_
  refine xj_E.adv 1 (pc' := 128) (ls' := [(0, .ref 1000), (1, .ref 0), (2, .ref 32), (3, .ref 64), (4, .int (nI k))]) (st' := [.ref 64, .int (xs (nI k + 3).toNatClampNeg), .int (xs (nI k + 2).toNatClampNeg), .int (xs (nI k + 1).toNatClampNeg), .ref 0]) (w' := (SH, S, T)) rfl ?_
  refine xj_E.call (d := 699) rfl rfl rfl rfl rfl (ok_w_item (D := 698) (by omega) o1 o2 tg ?_ ?_ ?_)
  · intro e
    rcases o6 with h | h | h
    · show xj_E (xX L xs) 700 0 131 [(0, .ref 1000), (1, .ref 0), (2, .ref 32), (3, .ref 64), (4, .int (nI k))] [.int 0] (SH, S1, (xj_setL T 64 0 v.toInt64)) _
      exact la_item hL hk o3 o4 h.2.1 (fun _ => by rw [h.2.2]; rfl) ((hK S2 _ o5).mono (fun o w c z h => ⟨h.1, by omega, by omega⟩))
    · exact absurd (h.1.symm.trans e) (by decide)
    · exact absurd (h.1.symm.trans e) (by decide)
  · intro e
    rcases o6 with h | h | h
    · exact absurd (h.1.symm.trans e) (by decide)
    · show xj_E (xX L xs) 700 0 131 [(0, .ref 1000), (1, .ref 0), (2, .ref 32), (3, .ref 64), (4, .int (nI k))] [.int 1] (SH, S1, T) _
      exact la_item hL hk o3 o4 h.2 (fun z => absurd z (by decide)) ((hK S2 _ o5).mono (fun o w c z h => ⟨h.1, by omega, by omega⟩))
    · exact absurd (h.1.symm.trans e) (by decide)
  · intro e
    rcases o6 with h | h | h
    · exact absurd (h.1.symm.trans e) (by decide)
    · exact absurd (h.1.symm.trans e) (by decide)
    · show xj_E (xX L xs) 700 0 131 [(0, .ref 1000), (1, .ref 0), (2, .ref 32), (3, .ref 64), (4, .int (nI k))] [.int 2] (SH, S1, T) _
      exact la_item hL hk o3 o4 h.2 (fun z => absurd z (by decide)) ((hK S2 _ o5).mono (fun o w c z h => ⟨h.1, by omega, by omega⟩))
set_option maxRecDepth 100000 in
theorem lc_on {L : Nat} {xs : Nat → Int32} {T : Nat → Nat → Int64} {k n : Nat} {S : Nat → Nat → Int32} {t : Int32} (hL : L ≤ 2560) (hk : k + 5 ≤ L) (hA : yA S S t) (ht : t ≤ 900000) (ht0 : 0 ≤ t) (hK : ∀ S2 T2, yA S2 S2 (t + 60) → xj_E (xX L xs) 700 0 23 [(0, .ref 1000), (1, .ref 0), (2, .ref 32), (3, .ref 64), (4, .int (nI k + 5))] [] (SH, S2, T2) (fun o _ c z => o = .inl (some (.int 1)) ∧ c ≤ n ∧ z ≤ 6 * (n))) : xj_E (xX L xs) 700 0 272 [(0, .ref 1000), (1, .ref 0), (2, .ref 32), (3, .ref 64), (4, .int (nI k))] [] (SH, S, T) (fun o _ c z => o = .inl (some (.int 1)) ∧ c ≤ n + 1 ∧ z ≤ 6 * (n + 1)) := by
  obtain ⟨tag, v, S1, r, S2, o1, o2, o3, o4, o5, o6⟩ := os_on (a := xs (nI k + 1).toNatClampNeg) (b := xs (nI k + 2).toNatClampNeg) (c := xs (nI k + 3).toNatClampNeg) hA ht ht0
  have tg : tag = 0 ∨ tag = 1 ∨ tag = 2 := by
    rcases o6 with h | h | h <;> simp [h.1]
  refine xj_E.adv 5 (pc' := 278) (ls' := [(0, .ref 1000), (1, .ref 0), (2, .ref 32), (3, .ref 64), (4, .int (nI k))]) (st' := [.int (nI k + 1), .ref 1000, .ref 0]) (w' := (SH, S, T)) rfl ?_
  refine xj_E.igiv rfl rfl rfl (lw_v hL 1 (by omega)) ?_
  refine xj_E.adv 4 (pc' := 284) (ls' := [(0, .ref 1000), (1, .ref 0), (2, .ref 32), (3, .ref 64), (4, .int (nI k))]) (st' := [.int (nI k + 2), .ref 1000, .int (xs (nI k + 1).toNatClampNeg), .ref 0]) (w' := (SH, S, T)) rfl ?_
  refine xj_E.igiv rfl rfl rfl (lw_v hL 2 (by omega)) ?_
  refine xj_E.adv 4 (pc' := 290) (ls' := [(0, .ref 1000), (1, .ref 0), (2, .ref 32), (3, .ref 64), (4, .int (nI k))]) (st' := [.int (nI k + 3), .ref 1000, .int (xs (nI k + 2).toNatClampNeg), .int (xs (nI k + 1).toNatClampNeg), .ref 0]) (w' := (SH, S, T)) rfl ?_
  refine xj_E.igiv rfl rfl rfl (lw_v hL 3 (by omega)) ?_
  refine xj_E.adv 1 (pc' := 292) (ls' := [(0, .ref 1000), (1, .ref 0), (2, .ref 32), (3, .ref 64), (4, .int (nI k))]) (st' := [.ref 64, .int (xs (nI k + 3).toNatClampNeg), .int (xs (nI k + 2).toNatClampNeg), .int (xs (nI k + 1).toNatClampNeg), .ref 0]) (w' := (SH, S, T)) rfl ?_
  refine xj_E.call (d := 699) rfl rfl rfl rfl rfl (ok_w_on (D := 698) (by omega) o1 o2 tg ?_ ?_ ?_)
  · intro e
    rcases o6 with h | h | h
    · show xj_E (xX L xs) 700 0 295 [(0, .ref 1000), (1, .ref 0), (2, .ref 32), (3, .ref 64), (4, .int (nI k))] [.int 0] (SH, S1, (xj_setL T 64 0 v.toInt64)) _
      exact la_on hL hk o3 o4 h.2.1 (fun _ => by rw [h.2.2]; rfl) ((hK S2 _ o5).mono (fun o w c z h => ⟨h.1, by omega, by omega⟩))
    · exact absurd (h.1.symm.trans e) (by decide)
    · exact absurd (h.1.symm.trans e) (by decide)
  · intro e
    rcases o6 with h | h | h
    · exact absurd (h.1.symm.trans e) (by decide)
    · show xj_E (xX L xs) 700 0 295 [(0, .ref 1000), (1, .ref 0), (2, .ref 32), (3, .ref 64), (4, .int (nI k))] [.int 1] (SH, S1, T) _
      exact la_on hL hk o3 o4 h.2 (fun z => absurd z (by decide)) ((hK S2 _ o5).mono (fun o w c z h => ⟨h.1, by omega, by omega⟩))
    · exact absurd (h.1.symm.trans e) (by decide)
  · intro e
    rcases o6 with h | h | h
    · exact absurd (h.1.symm.trans e) (by decide)
    · exact absurd (h.1.symm.trans e) (by decide)
    · show xj_E (xX L xs) 700 0 295 [(0, .ref 1000), (1, .ref 0), (2, .ref 32), (3, .ref 64), (4, .int (nI k))] [.int 2] (SH, S1, T) _
      exact la_on hL hk o3 o4 h.2 (fun z => absurd z (by decide)) ((hK S2 _ o5).mono (fun o w c z h => ⟨h.1, by omega, by omega⟩))
set_option maxRecDepth 100000 in
theorem lc_when {L : Nat} {xs : Nat → Int32} {T : Nat → Nat → Int64} {k n : Nat} {S : Nat → Nat → Int32} {t : Int32} (hL : L ≤ 2560) (hk : k + 5 ≤ L) (hA : yA S S t) (ht : t ≤ 900000) (ht0 : 0 ≤ t) (hK : ∀ S2 T2, yA S2 S2 (t + 60) → xj_E (xX L xs) 700 0 23 [(0, .ref 1000), (1, .ref 0), (2, .ref 32), (3, .ref 64), (4, .int (nI k + 5))] [] (SH, S2, T2) (fun o _ c z => o = .inl (some (.int 1)) ∧ c ≤ n ∧ z ≤ 6 * (n))) : xj_E (xX L xs) 700 0 352 [(0, .ref 1000), (1, .ref 0), (2, .ref 32), (3, .ref 64), (4, .int (nI k))] [] (SH, S, T) (fun o _ c z => o = .inl (some (.int 1)) ∧ c ≤ n + 1 ∧ z ≤ 6 * (n + 1)) := by
  obtain ⟨tag, v, S1, r, S2, o1, o2, o3, o4, o5, o6⟩ := os_when (a := xs (nI k + 1).toNatClampNeg) (b := xs (nI k + 2).toNatClampNeg) (c := xs (nI k + 3).toNatClampNeg) (d := xs (nI k + 4).toNatClampNeg) hA ht ht0
  have tg : tag = 0 ∨ tag = 1 ∨ tag = 2 := by
    rcases o6 with h | h | h <;> simp [h.1]
  refine xj_E.adv 5 (pc' := 358) (ls' := [(0, .ref 1000), (1, .ref 0), (2, .ref 32), (3, .ref 64), (4, .int (nI k))]) (st' := [.int (nI k + 1), .ref 1000, .ref 0]) (w' := (SH, S, T)) rfl ?_
  refine xj_E.igiv rfl rfl rfl (lw_v hL 1 (by omega)) ?_
  refine xj_E.adv 4 (pc' := 364) (ls' := [(0, .ref 1000), (1, .ref 0), (2, .ref 32), (3, .ref 64), (4, .int (nI k))]) (st' := [.int (nI k + 2), .ref 1000, .int (xs (nI k + 1).toNatClampNeg), .ref 0]) (w' := (SH, S, T)) rfl ?_
  refine xj_E.igiv rfl rfl rfl (lw_v hL 2 (by omega)) ?_
  refine xj_E.adv 4 (pc' := 370) (ls' := [(0, .ref 1000), (1, .ref 0), (2, .ref 32), (3, .ref 64), (4, .int (nI k))]) (st' := [.int (nI k + 3), .ref 1000, .int (xs (nI k + 2).toNatClampNeg), .int (xs (nI k + 1).toNatClampNeg), .ref 0]) (w' := (SH, S, T)) rfl ?_
  refine xj_E.igiv rfl rfl rfl (lw_v hL 3 (by omega)) ?_
  refine xj_E.adv 4 (pc' := 376) (ls' := [(0, .ref 1000), (1, .ref 0), (2, .ref 32), (3, .ref 64), (4, .int (nI k))]) (st' := [.int (nI k + 4), .ref 1000, .int (xs (nI k + 3).toNatClampNeg), .int (xs (nI k + 2).toNatClampNeg), .int (xs (nI k + 1).toNatClampNeg), .ref 0]) (w' := (SH, S, T)) rfl ?_
  refine xj_E.igiv rfl rfl rfl (lw_v hL 4 (by omega)) ?_
  refine xj_E.call (d := 699) rfl rfl rfl rfl rfl (ok_w_when (D := 698) (by omega) o1 o2 tg ?_ ?_ ?_)
  · intro e
    rcases o6 with h | h | h
    · show xj_E (xX L xs) 700 0 380 [(0, .ref 1000), (1, .ref 0), (2, .ref 32), (3, .ref 64), (4, .int (nI k))] [.int 0] (SH, S1, T) _
      exact la_when hL hk o3 o4 h.2 ((hK S2 _ o5).mono (fun o w c z h => ⟨h.1, by omega, by omega⟩))
    · exact absurd (h.1.symm.trans e) (by decide)
    · exact absurd (h.1.symm.trans e) (by decide)
  · intro e
    rcases o6 with h | h | h
    · exact absurd (h.1.symm.trans e) (by decide)
    · show xj_E (xX L xs) 700 0 380 [(0, .ref 1000), (1, .ref 0), (2, .ref 32), (3, .ref 64), (4, .int (nI k))] [.int 1] (SH, S1, T) _
      exact la_when hL hk o3 o4 h.2 ((hK S2 _ o5).mono (fun o w c z h => ⟨h.1, by omega, by omega⟩))
    · exact absurd (h.1.symm.trans e) (by decide)
  · intro e
    rcases o6 with h | h | h
    · exact absurd (h.1.symm.trans e) (by decide)
    · exact absurd (h.1.symm.trans e) (by decide)
    · show xj_E (xX L xs) 700 0 380 [(0, .ref 1000), (1, .ref 0), (2, .ref 32), (3, .ref 64), (4, .int (nI k))] [.int 2] (SH, S1, T) _
      exact la_when hL hk o3 o4 h.2 ((hK S2 _ o5).mono (fun o w c z h => ⟨h.1, by omega, by omega⟩))
set_option maxRecDepth 100000 in
theorem lc_begin {L : Nat} {xs : Nat → Int32} {T : Nat → Nat → Int64} {k n : Nat} {S : Nat → Nat → Int32} {t : Int32} (hL : L ≤ 2560) (hk : k + 5 ≤ L) (hA : yA S S t) (ht : t ≤ 900000) (ht0 : 0 ≤ t) (hK : ∀ S2 T2, yA S2 S2 (t + 60) → xj_E (xX L xs) 700 0 23 [(0, .ref 1000), (1, .ref 0), (2, .ref 32), (3, .ref 64), (4, .int (nI k + 5))] [] (SH, S2, T2) (fun o _ c z => o = .inl (some (.int 1)) ∧ c ≤ n ∧ z ≤ 6 * (n))) : xj_E (xX L xs) 700 0 424 [(0, .ref 1000), (1, .ref 0), (2, .ref 32), (3, .ref 64), (4, .int (nI k))] [] (SH, S, T) (fun o _ c z => o = .inl (some (.int 1)) ∧ c ≤ n + 1 ∧ z ≤ 6 * (n + 1)) := by
  obtain ⟨tag, v, S1, r, S2, o1, o2, o3, o4, o5, o6⟩ := os_begin (a := xs (nI k + 1).toNatClampNeg) hA ht ht0
  have tg : tag = 0 ∨ tag = 1 ∨ tag = 2 ∨ tag = 3 := by
    rcases o6 with h | h | h | h <;> simp [h.1]
  refine xj_E.adv 5 (pc' := 430) (ls' := [(0, .ref 1000), (1, .ref 0), (2, .ref 32), (3, .ref 64), (4, .int (nI k))]) (st' := [.int (nI k + 1), .ref 1000, .ref 0]) (w' := (SH, S, T)) rfl ?_
  refine xj_E.igiv rfl rfl rfl (lw_v hL 1 (by omega)) ?_
  refine xj_E.adv 1 (pc' := 432) (ls' := [(0, .ref 1000), (1, .ref 0), (2, .ref 32), (3, .ref 64), (4, .int (nI k))]) (st' := [.ref 64, .int (xs (nI k + 1).toNatClampNeg), .ref 0]) (w' := (SH, S, T)) rfl ?_
  refine xj_E.call (d := 699) rfl rfl rfl rfl rfl (ok_w_begin (D := 698) (by omega) o1 o2 tg ?_ ?_ ?_ ?_)
  · intro e
    rcases o6 with h | h | h | h
    · show xj_E (xX L xs) 700 0 435 [(0, .ref 1000), (1, .ref 0), (2, .ref 32), (3, .ref 64), (4, .int (nI k))] [.int 0] (SH, S1, (xj_setL T 64 0 v.toInt64)) _
      exact la_begin hL hk o3 o4 h.2.1 (fun _ => by rw [h.2.2]; rfl) ((hK S2 _ o5).mono (fun o w c z h => ⟨h.1, by omega, by omega⟩))
    · exact absurd (h.1.symm.trans e) (by decide)
    · exact absurd (h.1.symm.trans e) (by decide)
    · exact absurd (h.1.symm.trans e) (by decide)
  · intro e
    rcases o6 with h | h | h | h
    · exact absurd (h.1.symm.trans e) (by decide)
    · show xj_E (xX L xs) 700 0 435 [(0, .ref 1000), (1, .ref 0), (2, .ref 32), (3, .ref 64), (4, .int (nI k))] [.int 1] (SH, S1, T) _
      exact la_begin hL hk o3 o4 h.2 (fun z => absurd z (by decide)) ((hK S2 _ o5).mono (fun o w c z h => ⟨h.1, by omega, by omega⟩))
    · exact absurd (h.1.symm.trans e) (by decide)
    · exact absurd (h.1.symm.trans e) (by decide)
  · intro e
    rcases o6 with h | h | h | h
    · exact absurd (h.1.symm.trans e) (by decide)
    · exact absurd (h.1.symm.trans e) (by decide)
    · show xj_E (xX L xs) 700 0 435 [(0, .ref 1000), (1, .ref 0), (2, .ref 32), (3, .ref 64), (4, .int (nI k))] [.int 2] (SH, S1, T) _
      exact la_begin hL hk o3 o4 h.2 (fun z => absurd z (by decide)) ((hK S2 _ o5).mono (fun o w c z h => ⟨h.1, by omega, by omega⟩))
    · exact absurd (h.1.symm.trans e) (by decide)
  · intro e
    rcases o6 with h | h | h | h
    · exact absurd (h.1.symm.trans e) (by decide)
    · exact absurd (h.1.symm.trans e) (by decide)
    · exact absurd (h.1.symm.trans e) (by decide)
    · show xj_E (xX L xs) 700 0 435 [(0, .ref 1000), (1, .ref 0), (2, .ref 32), (3, .ref 64), (4, .int (nI k))] [.int 3] (SH, S1, T) _
      exact la_begin hL hk o3 o4 h.2 (fun z => absurd z (by decide)) ((hK S2 _ o5).mono (fun o w c z h => ⟨h.1, by omega, by omega⟩))
set_option maxRecDepth 100000 in
theorem lc_move {L : Nat} {xs : Nat → Int32} {T : Nat → Nat → Int64} {k n : Nat} {S : Nat → Nat → Int32} {t : Int32} (hL : L ≤ 2560) (hk : k + 5 ≤ L) (hA : yA S S t) (ht : t ≤ 900000) (ht0 : 0 ≤ t) (hK : ∀ S2 T2, yA S2 S2 (t + 60) → xj_E (xX L xs) 700 0 23 [(0, .ref 1000), (1, .ref 0), (2, .ref 32), (3, .ref 64), (4, .int (nI k + 5))] [] (SH, S2, T2) (fun o _ c z => o = .inl (some (.int 1)) ∧ c ≤ n ∧ z ≤ 6 * (n))) : xj_E (xX L xs) 700 0 480 [(0, .ref 1000), (1, .ref 0), (2, .ref 32), (3, .ref 64), (4, .int (nI k))] [] (SH, S, T) (fun o _ c z => o = .inl (some (.int 1)) ∧ c ≤ n + 1 ∧ z ≤ 6 * (n + 1)) := by
  obtain ⟨tag, v, S1, r, S2, o1, o2, o3, o4, o5, o6⟩ := os_move (a := xs (nI k + 1).toNatClampNeg) (b := xs (nI k + 2).toNatClampNeg) hA ht ht0
  have tg : tag = 0 ∨ tag = 1 ∨ tag = 2 ∨ tag = 3 ∨ tag = 4 := by
    rcases o6 with h | h | h | h | h <;> simp [h.1]
  refine xj_E.adv 5 (pc' := 486) (ls' := [(0, .ref 1000), (1, .ref 0), (2, .ref 32), (3, .ref 64), (4, .int (nI k))]) (st' := [.int (nI k + 1), .ref 1000, .ref 0]) (w' := (SH, S, T)) rfl ?_
  refine xj_E.igiv rfl rfl rfl (lw_v hL 1 (by omega)) ?_
  refine xj_E.adv 4 (pc' := 492) (ls' := [(0, .ref 1000), (1, .ref 0), (2, .ref 32), (3, .ref 64), (4, .int (nI k))]) (st' := [.int (nI k + 2), .ref 1000, .int (xs (nI k + 1).toNatClampNeg), .ref 0]) (w' := (SH, S, T)) rfl ?_
  refine xj_E.igiv rfl rfl rfl (lw_v hL 2 (by omega)) ?_
  refine xj_E.adv 1 (pc' := 494) (ls' := [(0, .ref 1000), (1, .ref 0), (2, .ref 32), (3, .ref 64), (4, .int (nI k))]) (st' := [.ref 64, .int (xs (nI k + 2).toNatClampNeg), .int (xs (nI k + 1).toNatClampNeg), .ref 0]) (w' := (SH, S, T)) rfl ?_
  refine xj_E.call (d := 699) rfl rfl rfl rfl rfl (ok_w_move (D := 698) (by omega) o1 o2 tg ?_ ?_ ?_ ?_ ?_)
  · intro e
    rcases o6 with h | h | h | h | h
    · show xj_E (xX L xs) 700 0 497 [(0, .ref 1000), (1, .ref 0), (2, .ref 32), (3, .ref 64), (4, .int (nI k))] [.int 0] (SH, S1, (xj_setL T 64 0 v.toInt64)) _
      exact la_move hL hk o3 o4 h.2.1 (fun _ => by rw [h.2.2]; rfl) ((hK S2 _ o5).mono (fun o w c z h => ⟨h.1, by omega, by omega⟩))
    · exact absurd (h.1.symm.trans e) (by decide)
    · exact absurd (h.1.symm.trans e) (by decide)
    · exact absurd (h.1.symm.trans e) (by decide)
    · exact absurd (h.1.symm.trans e) (by decide)
  · intro e
    rcases o6 with h | h | h | h | h
    · exact absurd (h.1.symm.trans e) (by decide)
    · exact absurd (h.1.symm.trans e) (by decide)
    · exact absurd (h.1.symm.trans e) (by decide)
    · show xj_E (xX L xs) 700 0 497 [(0, .ref 1000), (1, .ref 0), (2, .ref 32), (3, .ref 64), (4, .int (nI k))] [.int 3] (SH, S1, T) _
      exact la_move hL hk o3 o4 h.2 (fun z => absurd z (by decide)) ((hK S2 _ o5).mono (fun o w c z h => ⟨h.1, by omega, by omega⟩))
    · exact absurd (h.1.symm.trans e) (by decide)
  · intro e
    rcases o6 with h | h | h | h | h
    · exact absurd (h.1.symm.trans e) (by decide)
    · exact absurd (h.1.symm.trans e) (by decide)
    · show xj_E (xX L xs) 700 0 497 [(0, .ref 1000), (1, .ref 0), (2, .ref 32), (3, .ref 64), (4, .int (nI k))] [.int 2] (SH, S1, T) _
      exact la_move hL hk o3 o4 h.2 (fun z => absurd z (by decide)) ((hK S2 _ o5).mono (fun o w c z h => ⟨h.1, by omega, by omega⟩))
    · exact absurd (h.1.symm.trans e) (by decide)
    · exact absurd (h.1.symm.trans e) (by decide)
  · intro e
    rcases o6 with h | h | h | h | h
    · exact absurd (h.1.symm.trans e) (by decide)
    · exact absurd (h.1.symm.trans e) (by decide)
    · exact absurd (h.1.symm.trans e) (by decide)
    · exact absurd (h.1.symm.trans e) (by decide)
    · show xj_E (xX L xs) 700 0 497 [(0, .ref 1000), (1, .ref 0), (2, .ref 32), (3, .ref 64), (4, .int (nI k))] [.int 4] (SH, S1, T) _
      exact la_move hL hk o3 o4 h.2 (fun z => absurd z (by decide)) ((hK S2 _ o5).mono (fun o w c z h => ⟨h.1, by omega, by omega⟩))
  · intro e
    rcases o6 with h | h | h | h | h
    · exact absurd (h.1.symm.trans e) (by decide)
    · show xj_E (xX L xs) 700 0 497 [(0, .ref 1000), (1, .ref 0), (2, .ref 32), (3, .ref 64), (4, .int (nI k))] [.int 1] (SH, S1, T) _
      exact la_move hL hk o3 o4 h.2 (fun z => absurd z (by decide)) ((hK S2 _ o5).mono (fun o w c z h => ⟨h.1, by omega, by omega⟩))
    · exact absurd (h.1.symm.trans e) (by decide)
    · exact absurd (h.1.symm.trans e) (by decide)
    · exact absurd (h.1.symm.trans e) (by decide)
set_option maxRecDepth 100000 in
theorem lc_set {L : Nat} {xs : Nat → Int32} {T : Nat → Nat → Int64} {k n : Nat} {S : Nat → Nat → Int32} {t : Int32} (hL : L ≤ 2560) (hk : k + 5 ≤ L) (hA : yA S S t) (ht : t ≤ 900000) (ht0 : 0 ≤ t) (hK : ∀ S2 T2, yA S2 S2 (t + 60) → xj_E (xX L xs) 700 0 23 [(0, .ref 1000), (1, .ref 0), (2, .ref 32), (3, .ref 64), (4, .int (nI k + 5))] [] (SH, S2, T2) (fun o _ c z => o = .inl (some (.int 1)) ∧ c ≤ n ∧ z ≤ 6 * (n))) : xj_E (xX L xs) 700 0 548 [(0, .ref 1000), (1, .ref 0), (2, .ref 32), (3, .ref 64), (4, .int (nI k))] [] (SH, S, T) (fun o _ c z => o = .inl (some (.int 1)) ∧ c ≤ n + 1 ∧ z ≤ 6 * (n + 1)) := by
  obtain ⟨tag, v, S1, r, S2, o1, o2, o3, o4, o5, o6⟩ := os_set (a := xs (nI k + 1).toNatClampNeg) (b := xs (nI k + 2).toNatClampNeg) hA ht ht0
  have tg : tag = 0 ∨ tag = 2 ∨ tag = 3 := by
    rcases o6 with h | h | h <;> simp [h.1]
  refine xj_E.adv 5 (pc' := 554) (ls' := [(0, .ref 1000), (1, .ref 0), (2, .ref 32), (3, .ref 64), (4, .int (nI k))]) (st' := [.int (nI k + 1), .ref 1000, .ref 0]) (w' := (SH, S, T)) rfl ?_
  refine xj_E.igiv rfl rfl rfl (lw_v hL 1 (by omega)) ?_
  refine xj_E.adv 4 (pc' := 560) (ls' := [(0, .ref 1000), (1, .ref 0), (2, .ref 32), (3, .ref 64), (4, .int (nI k))]) (st' := [.int (nI k + 2), .ref 1000, .int (xs (nI k + 1).toNatClampNeg), .ref 0]) (w' := (SH, S, T)) rfl ?_
  refine xj_E.igiv rfl rfl rfl (lw_v hL 2 (by omega)) ?_
  refine xj_E.adv 1 (pc' := 562) (ls' := [(0, .ref 1000), (1, .ref 0), (2, .ref 32), (3, .ref 64), (4, .int (nI k))]) (st' := [.ref 64, .int (xs (nI k + 2).toNatClampNeg), .int (xs (nI k + 1).toNatClampNeg), .ref 0]) (w' := (SH, S, T)) rfl ?_
  refine xj_E.call (d := 699) rfl rfl rfl rfl rfl (ok_w_set (D := 698) (by omega) o1 o2 tg ?_ ?_ ?_)
  · intro e
    rcases o6 with h | h | h
    · show xj_E (xX L xs) 700 0 565 [(0, .ref 1000), (1, .ref 0), (2, .ref 32), (3, .ref 64), (4, .int (nI k))] [.int 0] (SH, S1, (xj_setL T 64 0 v.toInt64)) _
      exact la_set hL hk o3 o4 h.2.1 (fun _ => by rw [h.2.2]; rfl) ((hK S2 _ o5).mono (fun o w c z h => ⟨h.1, by omega, by omega⟩))
    · exact absurd (h.1.symm.trans e) (by decide)
    · exact absurd (h.1.symm.trans e) (by decide)
  · intro e
    rcases o6 with h | h | h
    · exact absurd (h.1.symm.trans e) (by decide)
    · show xj_E (xX L xs) 700 0 565 [(0, .ref 1000), (1, .ref 0), (2, .ref 32), (3, .ref 64), (4, .int (nI k))] [.int 1] (SH, S1, T) _
      exact la_set hL hk o3 o4 h.2 (fun z => absurd z (by decide)) ((hK S2 _ o5).mono (fun o w c z h => ⟨h.1, by omega, by omega⟩))
    · exact absurd (h.1.symm.trans e) (by decide)
  · intro e
    rcases o6 with h | h | h
    · exact absurd (h.1.symm.trans e) (by decide)
    · exact absurd (h.1.symm.trans e) (by decide)
    · show xj_E (xX L xs) 700 0 565 [(0, .ref 1000), (1, .ref 0), (2, .ref 32), (3, .ref 64), (4, .int (nI k))] [.int 2] (SH, S1, T) _
      exact la_set hL hk o3 o4 h.2 (fun z => absurd z (by decide)) ((hK S2 _ o5).mono (fun o w c z h => ⟨h.1, by omega, by omega⟩))
set_option maxRecDepth 100000 in
theorem lc_sentry {L : Nat} {xs : Nat → Int32} {T : Nat → Nat → Int64} {k n : Nat} {S : Nat → Nat → Int32} {t : Int32} (hL : L ≤ 2560) (hk : k + 5 ≤ L) (hA : yA S S t) (ht : t ≤ 900000) (ht0 : 0 ≤ t) (hK : ∀ S2 T2, yA S2 S2 (t + 60) → xj_E (xX L xs) 700 0 23 [(0, .ref 1000), (1, .ref 0), (2, .ref 32), (3, .ref 64), (4, .int (nI k + 5))] [] (SH, S2, T2) (fun o _ c z => o = .inl (some (.int 1)) ∧ c ≤ n ∧ z ≤ 6 * (n))) : xj_E (xX L xs) 700 0 188 [(0, .ref 1000), (1, .ref 0), (2, .ref 32), (3, .ref 64), (4, .int (nI k))] [] (SH, S, T) (fun o _ c z => o = .inl (some (.int 1)) ∧ c ≤ n + 1 ∧ z ≤ 6 * (n + 1)) := by
  refine xj_E.adv 5 (pc' := 194) (ls' := [(0, .ref 1000), (1, .ref 0), (2, .ref 32), (3, .ref 64), (4, .int (nI k))]) (st' := [.int (nI k + 1), .ref 1000, .ref 0]) (w' := (SH, S, T)) rfl ?_
  refine xj_E.igiv rfl rfl rfl (lw_v hL 1 (by omega)) ?_
  refine xj_E.adv 4 (pc' := 200) (ls' := [(0, .ref 1000), (1, .ref 0), (2, .ref 32), (3, .ref 64), (4, .int (nI k))]) (st' := [.int (nI k + 2), .ref 1000, .int (xs (nI k + 1).toNatClampNeg), .ref 0]) (w' := (SH, S, T)) rfl ?_
  refine xj_E.igiv rfl rfl rfl (lw_v hL 2 (by omega)) ?_
  refine xj_E.adv 1 (pc' := (if xj_cmp .eq (xs (nI k + 2).toNatClampNeg) 0 = true then 208 else 204)) (ls' := [(0, .ref 1000), (1, .ref 0), (2, .ref 32), (3, .ref 64), (4, .int (nI k))]) (st' := [.int (xs (nI k + 1).toNatClampNeg), .ref 0]) (w' := (SH, S, T)) rfl ?_
  refine xj_E.b_eq (fun q0 => ?_) (fun q0 => ?_)
  · obtain ⟨tag, v, S1, r, S2, o1, o2, o3, o4, o5, o6⟩ := os_sentry (a := xs (nI k + 1).toNatClampNeg) (b := 0) hA ht ht0
    have tg : tag = 0 ∨ tag = 1 ∨ tag = 2 := by
      rcases o6 with h | h | h <;> simp [h.1]
    refine xj_E.adv 2 (pc' := 210) (ls' := [(0, .ref 1000), (1, .ref 0), (2, .ref 32), (3, .ref 64), (4, .int (nI k))]) (st' := [.ref 64, .int 0, .int (xs (nI k + 1).toNatClampNeg), .ref 0]) (w' := (SH, S, T)) rfl ?_
    refine xj_E.call (d := 699) rfl rfl rfl rfl rfl (ok_w_sentry (D := 698) (by omega) o1 o2 tg ?_ ?_ ?_)
    · intro e
      rcases o6 with h | h | h
      · show xj_E (xX L xs) 700 0 213 [(0, .ref 1000), (1, .ref 0), (2, .ref 32), (3, .ref 64), (4, .int (nI k))] [.int 0] (SH, S1, (xj_setL T 64 0 v.toInt64)) _
        exact la_sentry0 hL hk q0 o3 o4 h.2.1 (fun _ => by rw [h.2.2]; rfl) ((hK S2 _ o5).mono (fun o w c z h => ⟨h.1, by omega, by omega⟩))
      · exact absurd (h.1.symm.trans e) (by decide)
      · exact absurd (h.1.symm.trans e) (by decide)
    · intro e
      rcases o6 with h | h | h
      · exact absurd (h.1.symm.trans e) (by decide)
      · show xj_E (xX L xs) 700 0 213 [(0, .ref 1000), (1, .ref 0), (2, .ref 32), (3, .ref 64), (4, .int (nI k))] [.int 1] (SH, S1, T) _
        exact la_sentry0 hL hk q0 o3 o4 h.2 (fun z => absurd z (by decide)) ((hK S2 _ o5).mono (fun o w c z h => ⟨h.1, by omega, by omega⟩))
      · exact absurd (h.1.symm.trans e) (by decide)
    · intro e
      rcases o6 with h | h | h
      · exact absurd (h.1.symm.trans e) (by decide)
      · exact absurd (h.1.symm.trans e) (by decide)
      · show xj_E (xX L xs) 700 0 213 [(0, .ref 1000), (1, .ref 0), (2, .ref 32), (3, .ref 64), (4, .int (nI k))] [.int 2] (SH, S1, T) _
        exact la_sentry0 hL hk q0 o3 o4 h.2 (fun z => absurd z (by decide)) ((hK S2 _ o5).mono (fun o w c z h => ⟨h.1, by omega, by omega⟩))
  · obtain ⟨tag, v, S1, r, S2, o1, o2, o3, o4, o5, o6⟩ := os_sentry (a := xs (nI k + 1).toNatClampNeg) (b := 1) hA ht ht0
    have tg : tag = 0 ∨ tag = 1 ∨ tag = 2 := by
      rcases o6 with h | h | h <;> simp [h.1]
    refine xj_E.adv 3 (pc' := 210) (ls' := [(0, .ref 1000), (1, .ref 0), (2, .ref 32), (3, .ref 64), (4, .int (nI k))]) (st' := [.ref 64, .int 1, .int (xs (nI k + 1).toNatClampNeg), .ref 0]) (w' := (SH, S, T)) rfl ?_
    refine xj_E.call (d := 699) rfl rfl rfl rfl rfl (ok_w_sentry (D := 698) (by omega) o1 o2 tg ?_ ?_ ?_)
    · intro e
      rcases o6 with h | h | h
      · show xj_E (xX L xs) 700 0 213 [(0, .ref 1000), (1, .ref 0), (2, .ref 32), (3, .ref 64), (4, .int (nI k))] [.int 0] (SH, S1, (xj_setL T 64 0 v.toInt64)) _
        exact la_sentry1 hL hk q0 o3 o4 h.2.1 (fun _ => by rw [h.2.2]; rfl) ((hK S2 _ o5).mono (fun o w c z h => ⟨h.1, by omega, by omega⟩))
      · exact absurd (h.1.symm.trans e) (by decide)
      · exact absurd (h.1.symm.trans e) (by decide)
    · intro e
      rcases o6 with h | h | h
      · exact absurd (h.1.symm.trans e) (by decide)
      · show xj_E (xX L xs) 700 0 213 [(0, .ref 1000), (1, .ref 0), (2, .ref 32), (3, .ref 64), (4, .int (nI k))] [.int 1] (SH, S1, T) _
        exact la_sentry1 hL hk q0 o3 o4 h.2 (fun z => absurd z (by decide)) ((hK S2 _ o5).mono (fun o w c z h => ⟨h.1, by omega, by omega⟩))
      · exact absurd (h.1.symm.trans e) (by decide)
    · intro e
      rcases o6 with h | h | h
      · exact absurd (h.1.symm.trans e) (by decide)
      · exact absurd (h.1.symm.trans e) (by decide)
      · show xj_E (xX L xs) 700 0 213 [(0, .ref 1000), (1, .ref 0), (2, .ref 32), (3, .ref 64), (4, .int (nI k))] [.int 2] (SH, S1, T) _
        exact la_sentry1 hL hk q0 o3 o4 h.2 (fun z => absurd z (by decide)) ((hK S2 _ o5).mono (fun o w c z h => ⟨h.1, by omega, by omega⟩))
