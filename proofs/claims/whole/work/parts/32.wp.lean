/-! the cells behind the constructors; what each method asks -/
def SH : List xj_S := [.inr (2, [.ref 1, .ref 14, .ref 23, .int 0, .int 0]), .inr (1, [.int 0, .ref 2, .ref 3, .ref 4, .ref 5, .int 0, .ref 6, .ref 7, .ref 8, .ref 9, .ref 10, .ref 11, .ref 12, .ref 13]), .inl (.int, 12), .inl (.int, 12), .inl (.int, 12), .inl (.int, 12), .inl (.int, 16), .inl (.boolean, 16), .inl (.int, 16), .inl (.int, 32), .inl (.int, 32), .inl (.int, 16), .inl (.int, 16), .inl (.int, 16), .inr (0, [.int 0, .int 0, .ref 15, .ref 16, .ref 17, .ref 18, .ref 19, .ref 20, .int 0, .ref 21, .ref 22]), .inl (.int, 40), .inl (.int, 40), .inl (.int, 40), .inl (.int, 40), .inl (.int, 40), .inl (.int, 4), .inl (.int, 48), .inl (.int, 48), .inr (0, [.int 0, .int 0, .ref 24, .ref 25, .ref 26, .ref 27, .ref 28, .ref 29, .int 0, .ref 30, .ref 31]), .inl (.int, 40), .inl (.int, 40), .inl (.int, 40), .inl (.int, 40), .inl (.int, 40), .inl (.int, 4), .inl (.int, 48), .inl (.int, 48), .inr (3, [.int 0, .int 0, .ref 33, .ref 34, .ref 35, .int 0, .ref 36, .ref 37, .ref 38, .ref 39, .ref 40, .ref 41, .ref 42, .ref 43, .ref 44, .int 0, .int 0, .int 0, .ref 45, .ref 46, .ref 47, .ref 48, .ref 49, .ref 50, .int 0, .ref 51, .ref 52, .int 0, .ref 53, .ref 54, .ref 55, .ref 56, .ref 57, .ref 58, .int 0, .ref 59, .ref 60, .int 0, .int 0, .int 0, .ref 61, .ref 62, .ref 63]), .inl (.int, 12), .inl (.int, 12), .inl (.int, 12), .inl (.int, 16), .inl (.boolean, 16), .inl (.int, 16), .inl (.int, 32), .inl (.int, 32), .inl (.boolean, 16), .inl (.int, 16), .inl (.int, 16), .inl (.int, 16), .inl (.int, 40), .inl (.int, 40), .inl (.int, 40), .inl (.int, 40), .inl (.int, 40), .inl (.int, 4), .inl (.int, 48), .inl (.int, 48), .inl (.int, 40), .inl (.int, 40), .inl (.int, 40), .inl (.int, 40), .inl (.int, 40), .inl (.int, 4), .inl (.int, 48), .inl (.int, 48), .inl (.int, 16), .inl (.int, 16), .inl (.int, 16), .inl (.long, 1)]
set_option maxRecDepth 100000 in
theorem wp_has {L d : Nat} {xs : Nat → Int32} {S : Nat → Nat → Int32} {T : Nat → Nat → Int64} {P : (Option Value ⊕ Nat) → xj_W → Nat → Nat → Prop} {k : Int32} (h : (k < 0 → (P (.inl (some (.int 0))) (SH, S, T) 0 0)) ∧ (¬ (k < 0) → (((S 14 1) ≤ k → (P (.inl (some (.int 0))) (SH, S, T) 0 0)) ∧ (¬ ((S 14 1) ≤ k) → (P (.inl (some (.int 1))) (SH, S, T) 0 0))))) : xj_E (xX L xs) d 4 0 [(0, .ref 14), (1, .int k)] [] (SH, S, T) P := by
  refine xj_E.adv 2 (pc' := (if xj_cmp .lt k 0 = true then 16 else 4)) (ls' := [(0, .ref 14), (1, .int k)]) (st' := []) (w' := (SH, S, T)) rfl ?_
  refine xj_E.b_lt (fun q => ?_) (fun q => ?_)
  · have h := h.1 q
    refine xj_E.adv 1 (pc' := 17) (ls' := [(0, .ref 14), (1, .int k)]) (st' := [.int 0]) (w' := (SH, S, T)) rfl ?_
    exact xj_E.ret rfl rfl rfl rfl h
  · have h := h.2 q
    refine xj_E.adv 4 (pc' := (if xj_cmp .ge k (S 14 1) = true then 16 else 12)) (ls' := [(0, .ref 14), (1, .int k)]) (st' := []) (w' := (SH, S, T)) rfl ?_
    refine xj_E.b_ge (fun q => ?_) (fun q => ?_)
    · have h := h.1 q
      refine xj_E.adv 1 (pc' := 17) (ls' := [(0, .ref 14), (1, .int k)]) (st' := [.int 0]) (w' := (SH, S, T)) rfl ?_
      exact xj_E.ret rfl rfl rfl rfl h
    · have h := h.2 q
      refine xj_E.adv 2 (pc' := 17) (ls' := [(0, .ref 14), (1, .int k)]) (st' := [.int 1]) (w' := (SH, S, T)) rfl ?_
      exact xj_E.ret rfl rfl rfl rfl h
set_option maxRecDepth 100000 in
theorem wp_isFinal {L d : Nat} {xs : Nat → Int32} {S : Nat → Nat → Int32} {T : Nat → Nat → Int64} {P : (Option Value ⊕ Nat) → xj_W → Nat → Nat → Prop} {k : Int32} (h : vp_in k 40 ∧ (((S 17 k.toNatClampNeg) = 4 → (P (.inl (some (.int 1))) (SH, S, T) 0 0)) ∧ (¬ ((S 17 k.toNatClampNeg) = 4) → (vp_in k 40 ∧ (((S 17 k.toNatClampNeg) ≠ 5 → (P (.inl (some (.int 0))) (SH, S, T) 0 0)) ∧ (¬ ((S 17 k.toNatClampNeg) ≠ 5) → (P (.inl (some (.int 1))) (SH, S, T) 0 0))))))) : xj_E (xX L xs) d 5 0 [(0, .ref 14), (1, .int k)] [] (SH, S, T) P := by
  refine xj_E.adv 3 (pc' := 5) (ls' := [(0, .ref 14), (1, .int k)]) (st' := [.int k, .ref 17]) (w' := (SH, S, T)) rfl ?_
  refine xj_E.iald rfl rfl h.1 ?_
  have h := h.2
  refine xj_E.adv 2 (pc' := (if xj_cmp .eq (S 17 k.toNatClampNeg) 4 = true then 20 else 10)) (ls' := [(0, .ref 14), (1, .int k)]) (st' := []) (w' := (SH, S, T)) rfl ?_
  refine xj_E.b_eq (fun q => ?_) (fun q => ?_)
  · have h := h.1 q
    refine xj_E.adv 2 (pc' := 25) (ls' := [(0, .ref 14), (1, .int k)]) (st' := [.int 1]) (w' := (SH, S, T)) rfl ?_
    exact xj_E.ret rfl rfl rfl rfl h
  · have h := h.2 q
    refine xj_E.adv 3 (pc' := 15) (ls' := [(0, .ref 14), (1, .int k)]) (st' := [.int k, .ref 17]) (w' := (SH, S, T)) rfl ?_
    refine xj_E.iald rfl rfl h.1 ?_
    have h := h.2
    refine xj_E.adv 2 (pc' := (if xj_cmp .ne (S 17 k.toNatClampNeg) 5 = true then 24 else 20)) (ls' := [(0, .ref 14), (1, .int k)]) (st' := []) (w' := (SH, S, T)) rfl ?_
    refine xj_E.b_ne (fun q => ?_) (fun q => ?_)
    · have h := h.1 q
      refine xj_E.adv 1 (pc' := 25) (ls' := [(0, .ref 14), (1, .int k)]) (st' := [.int 0]) (w' := (SH, S, T)) rfl ?_
      exact xj_E.ret rfl rfl rfl rfl h
    · have h := h.2 q
      refine xj_E.adv 2 (pc' := 25) (ls' := [(0, .ref 14), (1, .int k)]) (st' := [.int 1]) (w' := (SH, S, T)) rfl ?_
      exact xj_E.ret rfl rfl rfl rfl h
set_option maxRecDepth 100000 in
theorem wp_add {L d : Nat} {xs : Nat → Int32} {S : Nat → Nat → Int32} {T : Nat → Nat → Int64} {P : (Option Value ⊕ Nat) → xj_W → Nat → Nat → Prop} {a b : Int32} (h : vp_in (S 14 1) 40 ∧ (vp_in (S 14 1) 40 ∧ (P (.inl (some (.int (((S 14 1) + 1) - 1)))) (SH, (xj_set (xj_set (xj_set S 15 (S 14 1).toNatClampNeg a) 16 (S 14 1).toNatClampNeg b) 14 1 ((S 14 1) + 1)), T) 0 0))) : xj_E (xX L xs) d 7 0 [(0, .ref 14), (1, .int a), (2, .int b)] [] (SH, S, T) P := by
  refine xj_E.adv 5 (pc' := 9) (ls' := [(0, .ref 14), (1, .int a), (2, .int b)]) (st' := [.int a, .int (S 14 1), .ref 15]) (w' := (SH, S, T)) rfl ?_
  refine xj_E.iast rfl rfl h.1 ?_
  have h := h.2
  refine xj_E.adv 5 (pc' := 19) (ls' := [(0, .ref 14), (1, .int a), (2, .int b)]) (st' := [.int b, .int (S 14 1), .ref 16]) (w' := (SH, (xj_set S 15 (S 14 1).toNatClampNeg a), T)) rfl ?_
  refine xj_E.iast rfl rfl h.1 ?_
  have h := h.2
  refine xj_E.adv 10 (pc' := 36) (ls' := [(0, .ref 14), (1, .int a), (2, .int b)]) (st' := [.int (((S 14 1) + 1) - 1)]) (w' := (SH, (xj_set (xj_set (xj_set S 15 (S 14 1).toNatClampNeg a) 16 (S 14 1).toNatClampNeg b) 14 1 ((S 14 1) + 1)), T)) rfl ?_
  exact xj_E.ret rfl rfl rfl rfl h
set_option maxRecDepth 100000 in
theorem wp_item {L d : Nat} {xs : Nat → Int32} {S : Nat → Nat → Int32} {T : Nat → Nat → Int64} {P : (Option Value ⊕ Nat) → xj_W → Nat → Nat → Prop} {a b c : Int32} (h : xj_E (xX L xs) d 3 0 [(0, .ref 14)] [] (SH, S, T) (xj_Ri SH (fun v3 S1 T2 => (v3 ≠ 0 → (P (.inr 0) (SH, S1, T2) 1 6)) ∧ (¬ (v3 ≠ 0) → (((S1 1 0) ≠ 12 → ((c < 0 → ((a < 0 → (P (.inr 1) (SH, S1, T2) 1 6)) ∧ (¬ (a < 0) → ((3 < a → (P (.inr 1) (SH, S1, T2) 1 6)) ∧ (¬ (3 < a) → (xj_E (xX L xs) d 13 0 [(0, .ref 1), (1, .int b)] [] (SH, S1, T2) (xj_Ri SH (fun v6 S4 T5 => (v6 = 0 → (P (.inr 1) (SH, S4, T5) 1 6)) ∧ (¬ (v6 = 0) → ((0 ≠ 0 → (xj_E (xX L xs) d 16 0 [(0, .ref 1), (1, .int a), (2, .int b), (3, .int c)] [] (SH, S4, T5) (xj_Ri SH (fun v9 S7 T8 => P (.inl (some (.int v9))) (SH, S7, T8) 0 0)))) ∧ (¬ (0 ≠ 0) → (P (.inr 1) (SH, S4, T5) 1 6)))))))))))) ∧ (¬ (c < 0) → ((15 < c → ((a < 0 → (P (.inr 1) (SH, S1, T2) 1 6)) ∧ (¬ (a < 0) → ((3 < a → (P (.inr 1) (SH, S1, T2) 1 6)) ∧ (¬ (3 < a) → (xj_E (xX L xs) d 13 0 [(0, .ref 1), (1, .int b)] [] (SH, S1, T2) (xj_Ri SH (fun v12 S10 T11 => (v12 = 0 → (P (.inr 1) (SH, S10, T11) 1 6)) ∧ (¬ (v12 = 0) → ((0 ≠ 0 → (xj_E (xX L xs) d 16 0 [(0, .ref 1), (1, .int a), (2, .int b), (3, .int c)] [] (SH, S10, T11) (xj_Ri SH (fun v15 S13 T14 => P (.inl (some (.int v15))) (SH, S13, T14) 0 0)))) ∧ (¬ (0 ≠ 0) → (P (.inr 1) (SH, S10, T11) 1 6)))))))))))) ∧ (¬ (15 < c) → (((c &&& 8) = 0 → ((a < 0 → (P (.inr 1) (SH, S1, T2) 1 6)) ∧ (¬ (a < 0) → ((3 < a → (P (.inr 1) (SH, S1, T2) 1 6)) ∧ (¬ (3 < a) → (xj_E (xX L xs) d 13 0 [(0, .ref 1), (1, .int b)] [] (SH, S1, T2) (xj_Ri SH (fun v18 S16 T17 => (v18 = 0 → (P (.inr 1) (SH, S16, T17) 1 6)) ∧ (¬ (v18 = 0) → ((1 ≠ 0 → (xj_E (xX L xs) d 16 0 [(0, .ref 1), (1, .int a), (2, .int b), (3, .int c)] [] (SH, S16, T17) (xj_Ri SH (fun v21 S19 T20 => P (.inl (some (.int v21))) (SH, S19, T20) 0 0)))) ∧ (¬ (1 ≠ 0) → (P (.inr 1) (SH, S16, T17) 1 6)))))))))))) ∧ (¬ ((c &&& 8) = 0) → ((a ≠ 0 → ((a < 0 → (P (.inr 1) (SH, S1, T2) 1 6)) ∧ (¬ (a < 0) → ((3 < a → (P (.inr 1) (SH, S1, T2) 1 6)) ∧ (¬ (3 < a) → (xj_E (xX L xs) d 13 0 [(0, .ref 1), (1, .int b)] [] (SH, S1, T2) (xj_Ri SH (fun v24 S22 T23 => (v24 = 0 → (P (.inr 1) (SH, S22, T23) 1 6)) ∧ (¬ (v24 = 0) → ((0 ≠ 0 → (xj_E (xX L xs) d 16 0 [(0, .ref 1), (1, .int a), (2, .int b), (3, .int c)] [] (SH, S22, T23) (xj_Ri SH (fun v27 S25 T26 => P (.inl (some (.int v27))) (SH, S25, T26) 0 0)))) ∧ (¬ (0 ≠ 0) → (P (.inr 1) (SH, S22, T23) 1 6)))))))))))) ∧ (¬ (a ≠ 0) → ((a < 0 → (P (.inr 1) (SH, S1, T2) 1 6)) ∧ (¬ (a < 0) → ((3 < a → (P (.inr 1) (SH, S1, T2) 1 6)) ∧ (¬ (3 < a) → (xj_E (xX L xs) d 13 0 [(0, .ref 1), (1, .int b)] [] (SH, S1, T2) (xj_Ri SH (fun v30 S28 T29 => (v30 = 0 → (P (.inr 1) (SH, S28, T29) 1 6)) ∧ (¬ (v30 = 0) → ((1 ≠ 0 → (xj_E (xX L xs) d 16 0 [(0, .ref 1), (1, .int a), (2, .int b), (3, .int c)] [] (SH, S28, T29) (xj_Ri SH (fun v33 S31 T32 => P (.inl (some (.int v33))) (SH, S31, T32) 0 0)))) ∧ (¬ (1 ≠ 0) → (P (.inr 1) (SH, S28, T29) 1 6)))))))))))))))))))) ∧ (¬ ((S1 1 0) ≠ 12) → (P (.inr 0) (SH, S1, T2) 1 6))))))) : xj_E (xX L xs) (d + 1) 28 0 [(0, .ref 0), (1, .int a), (2, .int b), (3, .int c)] [] (SH, S, T) P := by
  refine xj_E.adv 2 (pc' := 4) (ls' := [(0, .ref 0), (1, .int a), (2, .int b), (3, .int c)]) (st' := [.ref 14]) (w' := (SH, S, T)) rfl ?_
  refine xj_E.calli (S := SH) rfl rfl rfl rfl rfl (xj_E.mono h ?_)
  rintro _ _ _ _ ⟨v3, S1, T2, rfl, rfl, rfl, rfl, h⟩
  refine ⟨v3, S1, T2, rfl, rfl, rfl, rfl, ?_⟩
  refine xj_E.adv 1 (pc' := (if xj_cmp .ne v3 0 = true then 22 else 10)) (ls' := [(0, .ref 0), (1, .int a), (2, .int b), (3, .int c)]) (st' := []) (w' := (SH, S1, T2)) rfl ?_
  refine xj_E.b_ne (fun q => ?_) (fun q => ?_)
  · have h := h.1 q
    exact xj_E.thr rfl rfl rfl rfl rfl h
  · have h := h.2 q
    refine xj_E.adv 5 (pc' := (if xj_cmp .ne (S1 1 0) 12 = true then 32 else 22)) (ls' := [(0, .ref 0), (1, .int a), (2, .int b), (3, .int c)]) (st' := []) (w' := (SH, S1, T2)) rfl ?_
    refine xj_E.b_ne (fun q => ?_) (fun q => ?_)
    · have h := h.1 q
      refine xj_E.adv 2 (pc' := (if xj_cmp .lt c 0 = true then 57 else 36)) (ls' := [(0, .ref 0), (1, .int a), (2, .int b), (3, .int c)]) (st' := []) (w' := (SH, S1, T2)) rfl ?_
      refine xj_E.b_lt (fun q => ?_) (fun q => ?_)
      · have h := h.1 q
        refine xj_E.adv 4 (pc' := (if xj_cmp .lt a 0 = true then 85 else 64)) (ls' := [(4, .int 0), (0, .ref 0), (1, .int a), (2, .int b), (3, .int c)]) (st' := []) (w' := (SH, S1, T2)) rfl ?_
        refine xj_E.b_lt (fun q => ?_) (fun q => ?_)
        · have h := h.1 q
          exact xj_E.thr rfl rfl rfl rfl rfl h
        · have h := h.2 q
          refine xj_E.adv 3 (pc' := (if xj_cmp .gt a 3 = true then 85 else 69)) (ls' := [(4, .int 0), (0, .ref 0), (1, .int a), (2, .int b), (3, .int c)]) (st' := []) (w' := (SH, S1, T2)) rfl ?_
          refine xj_E.b_gt (fun q => ?_) (fun q => ?_)
          · have h := h.1 q
            exact xj_E.thr rfl rfl rfl rfl rfl h
          · have h := h.2 q
            refine xj_E.adv 3 (pc' := 74) (ls' := [(4, .int 0), (0, .ref 0), (1, .int a), (2, .int b), (3, .int c)]) (st' := [.int b, .ref 1]) (w' := (SH, S1, T2)) rfl ?_
            refine xj_E.calli (S := SH) rfl rfl rfl rfl rfl (xj_E.mono h ?_)
            rintro _ _ _ _ ⟨v6, S4, T5, rfl, rfl, rfl, rfl, h⟩
            refine ⟨v6, S4, T5, rfl, rfl, rfl, rfl, ?_⟩
            refine xj_E.adv 1 (pc' := (if xj_cmp .eq v6 0 = true then 85 else 80)) (ls' := [(4, .int 0), (0, .ref 0), (1, .int a), (2, .int b), (3, .int c)]) (st' := []) (w' := (SH, S4, T5)) rfl ?_
            refine xj_E.b_eq (fun q => ?_) (fun q => ?_)
            · have h := h.1 q
              exact xj_E.thr rfl rfl rfl rfl rfl h
            · have h := h.2 q
              refine xj_E.adv 2 (pc' := (if xj_cmp .ne 0 0 = true then 95 else 85)) (ls' := [(4, .int 0), (0, .ref 0), (1, .int a), (2, .int b), (3, .int c)]) (st' := []) (w' := (SH, S4, T5)) rfl ?_
              refine xj_E.b_ne (fun q => ?_) (fun q => ?_)
              · have h := h.1 q
                refine xj_E.adv 5 (pc' := 102) (ls' := [(4, .int 0), (0, .ref 0), (1, .int a), (2, .int b), (3, .int c)]) (st' := [.int c, .int b, .int a, .ref 1]) (w' := (SH, S4, T5)) rfl ?_
                refine xj_E.calli (S := SH) rfl rfl rfl rfl rfl (xj_E.mono h ?_)
                rintro _ _ _ _ ⟨v9, S7, T8, rfl, rfl, rfl, rfl, h⟩
                refine ⟨v9, S7, T8, rfl, rfl, rfl, rfl, ?_⟩
                exact xj_E.ret rfl rfl rfl rfl h
              · have h := h.2 q
                exact xj_E.thr rfl rfl rfl rfl rfl h
      · have h := h.2 q
        refine xj_E.adv 3 (pc' := (if xj_cmp .gt c 15 = true then 57 else 42)) (ls' := [(0, .ref 0), (1, .int a), (2, .int b), (3, .int c)]) (st' := []) (w' := (SH, S1, T2)) rfl ?_
        refine xj_E.b_gt (fun q => ?_) (fun q => ?_)
        · have h := h.1 q
          refine xj_E.adv 4 (pc' := (if xj_cmp .lt a 0 = true then 85 else 64)) (ls' := [(4, .int 0), (0, .ref 0), (1, .int a), (2, .int b), (3, .int c)]) (st' := []) (w' := (SH, S1, T2)) rfl ?_
          refine xj_E.b_lt (fun q => ?_) (fun q => ?_)
          · have h := h.1 q
            exact xj_E.thr rfl rfl rfl rfl rfl h
          · have h := h.2 q
            refine xj_E.adv 3 (pc' := (if xj_cmp .gt a 3 = true then 85 else 69)) (ls' := [(4, .int 0), (0, .ref 0), (1, .int a), (2, .int b), (3, .int c)]) (st' := []) (w' := (SH, S1, T2)) rfl ?_
            refine xj_E.b_gt (fun q => ?_) (fun q => ?_)
            · have h := h.1 q
              exact xj_E.thr rfl rfl rfl rfl rfl h
            · have h := h.2 q
              refine xj_E.adv 3 (pc' := 74) (ls' := [(4, .int 0), (0, .ref 0), (1, .int a), (2, .int b), (3, .int c)]) (st' := [.int b, .ref 1]) (w' := (SH, S1, T2)) rfl ?_
              refine xj_E.calli (S := SH) rfl rfl rfl rfl rfl (xj_E.mono h ?_)
              rintro _ _ _ _ ⟨v12, S10, T11, rfl, rfl, rfl, rfl, h⟩
              refine ⟨v12, S10, T11, rfl, rfl, rfl, rfl, ?_⟩
              refine xj_E.adv 1 (pc' := (if xj_cmp .eq v12 0 = true then 85 else 80)) (ls' := [(4, .int 0), (0, .ref 0), (1, .int a), (2, .int b), (3, .int c)]) (st' := []) (w' := (SH, S10, T11)) rfl ?_
              refine xj_E.b_eq (fun q => ?_) (fun q => ?_)
              · have h := h.1 q
                exact xj_E.thr rfl rfl rfl rfl rfl h
              · have h := h.2 q
                refine xj_E.adv 2 (pc' := (if xj_cmp .ne 0 0 = true then 95 else 85)) (ls' := [(4, .int 0), (0, .ref 0), (1, .int a), (2, .int b), (3, .int c)]) (st' := []) (w' := (SH, S10, T11)) rfl ?_
                refine xj_E.b_ne (fun q => ?_) (fun q => ?_)
                · have h := h.1 q
                  refine xj_E.adv 5 (pc' := 102) (ls' := [(4, .int 0), (0, .ref 0), (1, .int a), (2, .int b), (3, .int c)]) (st' := [.int c, .int b, .int a, .ref 1]) (w' := (SH, S10, T11)) rfl ?_
                  refine xj_E.calli (S := SH) rfl rfl rfl rfl rfl (xj_E.mono h ?_)
                  rintro _ _ _ _ ⟨v15, S13, T14, rfl, rfl, rfl, rfl, h⟩
                  refine ⟨v15, S13, T14, rfl, rfl, rfl, rfl, ?_⟩
                  exact xj_E.ret rfl rfl rfl rfl h
                · have h := h.2 q
                  exact xj_E.thr rfl rfl rfl rfl rfl h
        · have h := h.2 q
          refine xj_E.adv 4 (pc' := (if xj_cmp .eq (c &&& 8) 0 = true then 53 else 49)) (ls' := [(0, .ref 0), (1, .int a), (2, .int b), (3, .int c)]) (st' := []) (w' := (SH, S1, T2)) rfl ?_
          refine xj_E.b_eq (fun q => ?_) (fun q => ?_)
          · have h := h.1 q
            refine xj_E.adv 5 (pc' := (if xj_cmp .lt a 0 = true then 85 else 64)) (ls' := [(4, .int 1), (0, .ref 0), (1, .int a), (2, .int b), (3, .int c)]) (st' := []) (w' := (SH, S1, T2)) rfl ?_
            refine xj_E.b_lt (fun q => ?_) (fun q => ?_)
            · have h := h.1 q
              exact xj_E.thr rfl rfl rfl rfl rfl h
            · have h := h.2 q
              refine xj_E.adv 3 (pc' := (if xj_cmp .gt a 3 = true then 85 else 69)) (ls' := [(4, .int 1), (0, .ref 0), (1, .int a), (2, .int b), (3, .int c)]) (st' := []) (w' := (SH, S1, T2)) rfl ?_
              refine xj_E.b_gt (fun q => ?_) (fun q => ?_)
              · have h := h.1 q
                exact xj_E.thr rfl rfl rfl rfl rfl h
              · have h := h.2 q
                refine xj_E.adv 3 (pc' := 74) (ls' := [(4, .int 1), (0, .ref 0), (1, .int a), (2, .int b), (3, .int c)]) (st' := [.int b, .ref 1]) (w' := (SH, S1, T2)) rfl ?_
                refine xj_E.calli (S := SH) rfl rfl rfl rfl rfl (xj_E.mono h ?_)
                rintro _ _ _ _ ⟨v18, S16, T17, rfl, rfl, rfl, rfl, h⟩
                refine ⟨v18, S16, T17, rfl, rfl, rfl, rfl, ?_⟩
                refine xj_E.adv 1 (pc' := (if xj_cmp .eq v18 0 = true then 85 else 80)) (ls' := [(4, .int 1), (0, .ref 0), (1, .int a), (2, .int b), (3, .int c)]) (st' := []) (w' := (SH, S16, T17)) rfl ?_
                refine xj_E.b_eq (fun q => ?_) (fun q => ?_)
                · have h := h.1 q
                  exact xj_E.thr rfl rfl rfl rfl rfl h
                · have h := h.2 q
                  refine xj_E.adv 2 (pc' := (if xj_cmp .ne 1 0 = true then 95 else 85)) (ls' := [(4, .int 1), (0, .ref 0), (1, .int a), (2, .int b), (3, .int c)]) (st' := []) (w' := (SH, S16, T17)) rfl ?_
                  refine xj_E.b_ne (fun q => ?_) (fun q => ?_)
                  · have h := h.1 q
                    refine xj_E.adv 5 (pc' := 102) (ls' := [(4, .int 1), (0, .ref 0), (1, .int a), (2, .int b), (3, .int c)]) (st' := [.int c, .int b, .int a, .ref 1]) (w' := (SH, S16, T17)) rfl ?_
                    refine xj_E.calli (S := SH) rfl rfl rfl rfl rfl (xj_E.mono h ?_)
                    rintro _ _ _ _ ⟨v21, S19, T20, rfl, rfl, rfl, rfl, h⟩
                    refine ⟨v21, S19, T20, rfl, rfl, rfl, rfl, ?_⟩
                    exact xj_E.ret rfl rfl rfl rfl h
                  · have h := h.2 q
                    exact xj_E.thr rfl rfl rfl rfl rfl h
          · have h := h.2 q
            refine xj_E.adv 2 (pc' := (if xj_cmp .ne a 0 = true then 57 else 53)) (ls' := [(0, .ref 0), (1, .int a), (2, .int b), (3, .int c)]) (st' := []) (w' := (SH, S1, T2)) rfl ?_
            refine xj_E.b_ne (fun q => ?_) (fun q => ?_)
            · have h := h.1 q
              refine xj_E.adv 4 (pc' := (if xj_cmp .lt a 0 = true then 85 else 64)) (ls' := [(4, .int 0), (0, .ref 0), (1, .int a), (2, .int b), (3, .int c)]) (st' := []) (w' := (SH, S1, T2)) rfl ?_
              refine xj_E.b_lt (fun q => ?_) (fun q => ?_)
              · have h := h.1 q
                exact xj_E.thr rfl rfl rfl rfl rfl h
              · have h := h.2 q
                refine xj_E.adv 3 (pc' := (if xj_cmp .gt a 3 = true then 85 else 69)) (ls' := [(4, .int 0), (0, .ref 0), (1, .int a), (2, .int b), (3, .int c)]) (st' := []) (w' := (SH, S1, T2)) rfl ?_
                refine xj_E.b_gt (fun q => ?_) (fun q => ?_)
                · have h := h.1 q
                  exact xj_E.thr rfl rfl rfl rfl rfl h
                · have h := h.2 q
                  refine xj_E.adv 3 (pc' := 74) (ls' := [(4, .int 0), (0, .ref 0), (1, .int a), (2, .int b), (3, .int c)]) (st' := [.int b, .ref 1]) (w' := (SH, S1, T2)) rfl ?_
                  refine xj_E.calli (S := SH) rfl rfl rfl rfl rfl (xj_E.mono h ?_)
                  rintro _ _ _ _ ⟨v24, S22, T23, rfl, rfl, rfl, rfl, h⟩
                  refine ⟨v24, S22, T23, rfl, rfl, rfl, rfl, ?_⟩
                  refine xj_E.adv 1 (pc' := (if xj_cmp .eq v24 0 = true then 85 else 80)) (ls' := [(4, .int 0), (0, .ref 0), (1, .int a), (2, .int b), (3, .int c)]) (st' := []) (w' := (SH, S22, T23)) rfl ?_
                  refine xj_E.b_eq (fun q => ?_) (fun q => ?_)
                  · have h := h.1 q
                    exact xj_E.thr rfl rfl rfl rfl rfl h
                  · have h := h.2 q
                    refine xj_E.adv 2 (pc' := (if xj_cmp .ne 0 0 = true then 95 else 85)) (ls' := [(4, .int 0), (0, .ref 0), (1, .int a), (2, .int b), (3, .int c)]) (st' := []) (w' := (SH, S22, T23)) rfl ?_
                    refine xj_E.b_ne (fun q => ?_) (fun q => ?_)
                    · have h := h.1 q
                      refine xj_E.adv 5 (pc' := 102) (ls' := [(4, .int 0), (0, .ref 0), (1, .int a), (2, .int b), (3, .int c)]) (st' := [.int c, .int b, .int a, .ref 1]) (w' := (SH, S22, T23)) rfl ?_
                      refine xj_E.calli (S := SH) rfl rfl rfl rfl rfl (xj_E.mono h ?_)
                      rintro _ _ _ _ ⟨v27, S25, T26, rfl, rfl, rfl, rfl, h⟩
                      refine ⟨v27, S25, T26, rfl, rfl, rfl, rfl, ?_⟩
                      exact xj_E.ret rfl rfl rfl rfl h
                    · have h := h.2 q
                      exact xj_E.thr rfl rfl rfl rfl rfl h
            · have h := h.2 q
              refine xj_E.adv 5 (pc' := (if xj_cmp .lt a 0 = true then 85 else 64)) (ls' := [(4, .int 1), (0, .ref 0), (1, .int a), (2, .int b), (3, .int c)]) (st' := []) (w' := (SH, S1, T2)) rfl ?_
              refine xj_E.b_lt (fun q => ?_) (fun q => ?_)
              · have h := h.1 q
                exact xj_E.thr rfl rfl rfl rfl rfl h
              · have h := h.2 q
                refine xj_E.adv 3 (pc' := (if xj_cmp .gt a 3 = true then 85 else 69)) (ls' := [(4, .int 1), (0, .ref 0), (1, .int a), (2, .int b), (3, .int c)]) (st' := []) (w' := (SH, S1, T2)) rfl ?_
                refine xj_E.b_gt (fun q => ?_) (fun q => ?_)
                · have h := h.1 q
                  exact xj_E.thr rfl rfl rfl rfl rfl h
                · have h := h.2 q
                  refine xj_E.adv 3 (pc' := 74) (ls' := [(4, .int 1), (0, .ref 0), (1, .int a), (2, .int b), (3, .int c)]) (st' := [.int b, .ref 1]) (w' := (SH, S1, T2)) rfl ?_
                  refine xj_E.calli (S := SH) rfl rfl rfl rfl rfl (xj_E.mono h ?_)
                  rintro _ _ _ _ ⟨v30, S28, T29, rfl, rfl, rfl, rfl, h⟩
                  refine ⟨v30, S28, T29, rfl, rfl, rfl, rfl, ?_⟩
                  refine xj_E.adv 1 (pc' := (if xj_cmp .eq v30 0 = true then 85 else 80)) (ls' := [(4, .int 1), (0, .ref 0), (1, .int a), (2, .int b), (3, .int c)]) (st' := []) (w' := (SH, S28, T29)) rfl ?_
                  refine xj_E.b_eq (fun q => ?_) (fun q => ?_)
                  · have h := h.1 q
                    exact xj_E.thr rfl rfl rfl rfl rfl h
                  · have h := h.2 q
                    refine xj_E.adv 2 (pc' := (if xj_cmp .ne 1 0 = true then 95 else 85)) (ls' := [(4, .int 1), (0, .ref 0), (1, .int a), (2, .int b), (3, .int c)]) (st' := []) (w' := (SH, S28, T29)) rfl ?_
                    refine xj_E.b_ne (fun q => ?_) (fun q => ?_)
                    · have h := h.1 q
                      refine xj_E.adv 5 (pc' := 102) (ls' := [(4, .int 1), (0, .ref 0), (1, .int a), (2, .int b), (3, .int c)]) (st' := [.int c, .int b, .int a, .ref 1]) (w' := (SH, S28, T29)) rfl ?_
                      refine xj_E.calli (S := SH) rfl rfl rfl rfl rfl (xj_E.mono h ?_)
                      rintro _ _ _ _ ⟨v33, S31, T32, rfl, rfl, rfl, rfl, h⟩
                      refine ⟨v33, S31, T32, rfl, rfl, rfl, rfl, ?_⟩
                      exact xj_E.ret rfl rfl rfl rfl h
                    · have h := h.2 q
                      exact xj_E.thr rfl rfl rfl rfl rfl h
    · have h := h.2 q
      exact xj_E.thr rfl rfl rfl rfl rfl h
