/-! a method that may throw: our machine does so -/
set_option maxHeartbeats 4000000 in
set_option maxRecDepth 100000 in
theorem ok_c_move {L : Nat} {xs : Nat → Int32} {T : Nat → Nat → Int64} {D : Nat} {S : (Nat → Nat → Int32)} {P : (Option Value ⊕ Nat) → xj_W → Nat → Nat → Prop} {a b : Int32} (hD : 606 ≤ D) (hd : d_c_move a b S) (h : ∀ v S9, (0, v, S9) = f_c_move a b S → P (.inl (some (.int v))) (SH, S9, T) 0 0) (ht : ∀ q v S9, (q + 1, v, S9) = f_c_move a b S → P (.inr q) (SH, S9, T) 1 6) : xj_E (xX L xs) D 33 0 [(0, .ref 0), (1, .int a), (2, .int b)] [] (SH, S, T) P := by
  unfold d_c_move at hd
  unfold f_c_move at h ht
  obtain ⟨D1, rfl⟩ : ∃ D1, D = D1 + 1 := ⟨D - 1, by omega⟩
  refine xj_E.adv 3 (pc' := 5) (ls' := [(0, .ref 0), (1, .int a), (2, .int b)]) (st' := [.int a, .ref 14]) (w' := (SH, S, T)) rfl ?_
  refine xj_E.calli (d := D1) (S := SH) rfl rfl rfl rfl rfl (xj_E.deep (ok_l_has (d := 0) hd.1 ?_) (by omega))
  intro w1 f1
  refine ⟨_, _, _, rfl, rfl, rfl, rfl, ?_⟩
  have hd := hd.2
  rw [← f1] at hd
  have h : ∀ v S9, (0, v, S9) = ((if (r_l_has S a) ≠ 0 then (if (r_c_isCommandMove S b) ≠ 0 then (if (r_c_mayBeMoved S a b) ≠ 0 then (match f_c_openCommand S with | (_, S1) => match f_c_make a b 0 S1 with | (_, S2) => f_c_workOff S2) else ((1, 0, S))) else ((2, 0, S))) else ((4, 0, S))) : Nat × Int32 × (Nat → Nat → Int32)) → P (.inl (some (.int v))) (SH, S9, T) 0 0 := h
  rw [← f1] at h
  have ht : ∀ q v S9, (q + 1, v, S9) = ((if (r_l_has S a) ≠ 0 then (if (r_c_isCommandMove S b) ≠ 0 then (if (r_c_mayBeMoved S a b) ≠ 0 then (match f_c_openCommand S with | (_, S1) => match f_c_make a b 0 S1 with | (_, S2) => f_c_workOff S2) else ((1, 0, S))) else ((2, 0, S))) else ((4, 0, S))) : Nat × Int32 × (Nat → Nat → Int32)) → P (.inr q) (SH, S9, T) 1 6 := ht
  rw [← f1] at ht
  refine xj_E.adv 1 (pc' := (if xj_cmp .ne w1 0 = true then 21 else 11)) (ls' := [(0, .ref 0), (1, .int a), (2, .int b)]) (st' := []) (w' := (SH, S, T)) rfl ?_
  refine xj_E.b_ne (fun q => ?_) (fun q => ?_)
  · have hd := hd.1 q
    have h := fun v S9 e => h v S9 (Eq.trans e (if_pos q).symm); have ht := fun q_ v S9 e => ht q_ v S9 (Eq.trans e (if_pos q).symm)
    refine xj_E.adv 1 (pc' := 22) (ls' := [(0, .ref 0), (1, .int a), (2, .int b)]) (st' := [.int b]) (w' := (SH, S, T)) rfl ?_
    refine xj_E.calli (d := D1) (S := SH) rfl rfl rfl rfl rfl (xj_E.deep (ok_c_isCommandMove (d := 0) hd.1 ?_) (by omega))
    intro w2 f2
    refine ⟨_, _, _, rfl, rfl, rfl, rfl, ?_⟩
    have hd := hd.2
    rw [← f2] at hd
    have h : ∀ v S9, (0, v, S9) = ((if (r_c_isCommandMove S b) ≠ 0 then (if (r_c_mayBeMoved S a b) ≠ 0 then (match f_c_openCommand S with | (_, S1) => match f_c_make a b 0 S1 with | (_, S2) => f_c_workOff S2) else ((1, 0, S))) else ((2, 0, S))) : Nat × Int32 × (Nat → Nat → Int32)) → P (.inl (some (.int v))) (SH, S9, T) 0 0 := h
    rw [← f2] at h
    have ht : ∀ q v S9, (q + 1, v, S9) = ((if (r_c_isCommandMove S b) ≠ 0 then (if (r_c_mayBeMoved S a b) ≠ 0 then (match f_c_openCommand S with | (_, S1) => match f_c_make a b 0 S1 with | (_, S2) => f_c_workOff S2) else ((1, 0, S))) else ((2, 0, S))) : Nat × Int32 × (Nat → Nat → Int32)) → P (.inr q) (SH, S9, T) 1 6 := ht
    rw [← f2] at ht
    refine xj_E.adv 1 (pc' := (if xj_cmp .ne w2 0 = true then 38 else 28)) (ls' := [(0, .ref 0), (1, .int a), (2, .int b)]) (st' := []) (w' := (SH, S, T)) rfl ?_
    refine xj_E.b_ne (fun q => ?_) (fun q => ?_)
    · have hd := hd.1 q
      have h := fun v S9 e => h v S9 (Eq.trans e (if_pos q).symm); have ht := fun q_ v S9 e => ht q_ v S9 (Eq.trans e (if_pos q).symm)
      refine xj_E.adv 3 (pc' := 41) (ls' := [(0, .ref 0), (1, .int a), (2, .int b)]) (st' := [.int b, .int a, .ref 0]) (w' := (SH, S, T)) rfl ?_
      refine xj_E.calli (d := D1) (S := SH) rfl rfl rfl rfl rfl (xj_E.deep (ok_c_mayBeMoved (d := 0) hd.1 ?_) (by omega))
      intro w3 f3
      refine ⟨_, _, _, rfl, rfl, rfl, rfl, ?_⟩
      have hd := hd.2
      rw [← f3] at hd
      have h : ∀ v S9, (0, v, S9) = ((if (r_c_mayBeMoved S a b) ≠ 0 then (match f_c_openCommand S with | (_, S1) => match f_c_make a b 0 S1 with | (_, S2) => f_c_workOff S2) else ((1, 0, S))) : Nat × Int32 × (Nat → Nat → Int32)) → P (.inl (some (.int v))) (SH, S9, T) 0 0 := h
      rw [← f3] at h
      have ht : ∀ q v S9, (q + 1, v, S9) = ((if (r_c_mayBeMoved S a b) ≠ 0 then (match f_c_openCommand S with | (_, S1) => match f_c_make a b 0 S1 with | (_, S2) => f_c_workOff S2) else ((1, 0, S))) : Nat × Int32 × (Nat → Nat → Int32)) → P (.inr q) (SH, S9, T) 1 6 := ht
      rw [← f3] at ht
      refine xj_E.adv 1 (pc' := (if xj_cmp .ne w3 0 = true then 57 else 47)) (ls' := [(0, .ref 0), (1, .int a), (2, .int b)]) (st' := []) (w' := (SH, S, T)) rfl ?_
      refine xj_E.b_ne (fun q => ?_) (fun q => ?_)
      · have hd := hd.1 q
        have h := fun v S9 e => h v S9 (Eq.trans e (if_pos q).symm); have ht := fun q_ v S9 e => ht q_ v S9 (Eq.trans e (if_pos q).symm)
        refine xj_E.adv 1 (pc' := 58) (ls' := [(0, .ref 0), (1, .int a), (2, .int b)]) (st' := [.ref 0]) (w' := (SH, S, T)) rfl ?_
        refine xj_E.callv (d := D1) (S := SH) rfl rfl rfl rfl rfl (ok_c_openCommand (by omega) hd.1 ?_)
        intro v1 S1 e1
        refine ⟨_, _, rfl, rfl, rfl, rfl, ?_⟩
        have hd := hd.2
        generalize f_c_openCommand S = Xe1 at e1 hd h ht
        subst e1
        have h : ∀ v S9, (0, v, S9) = ((match f_c_make a b 0 S1 with | (_, S2) => f_c_workOff S2) : Nat × Int32 × (Nat → Nat → Int32)) → P (.inl (some (.int v))) (SH, S9, T) 0 0 := h
        have ht : ∀ q v S9, (q + 1, v, S9) = ((match f_c_make a b 0 S1 with | (_, S2) => f_c_workOff S2) : Nat × Int32 × (Nat → Nat → Int32)) → P (.inr q) (SH, S9, T) 1 6 := ht
        refine xj_E.adv 4 (pc' := 65) (ls' := [(0, .ref 0), (1, .int a), (2, .int b)]) (st' := [.int 0, .int b, .int a, .ref 0]) (w' := (SH, S1, T)) rfl ?_
        refine xj_E.callv (d := D1) (S := SH) rfl rfl rfl rfl rfl (ok_c_make (by omega) hd.1 ?_)
        intro v2 S2 e2
        refine ⟨_, _, rfl, rfl, rfl, rfl, ?_⟩
        have hd := hd.2
        generalize f_c_make a b 0 S1 = Xe2 at e2 hd h ht
        subst e2
        refine xj_E.adv 1 (pc' := 69) (ls' := [(0, .ref 0), (1, .int a), (2, .int b)]) (st' := [.ref 0]) (w' := (SH, S2, T)) rfl ?_
        refine xj_E.callt rfl rfl rfl rfl rfl rfl (fun _ => rfl) (ok_c_workOff (by omega) hd ?_ ?_)
        · intro v S9 e
          exact ⟨rfl, rfl, xj_E.ret rfl rfl rfl rfl (h _ _ e)⟩
        · intro q v S9 e
          exact ht _ _ _ e
      · have hd := hd.2 q
        have h := fun v S9 e => h v S9 (Eq.trans e (if_neg q).symm); have ht := fun q_ v S9 e => ht q_ v S9 (Eq.trans e (if_neg q).symm)
        exact xj_E.thr rfl rfl rfl rfl rfl (ht 0 _ _ rfl)
    · have hd := hd.2 q
      have h := fun v S9 e => h v S9 (Eq.trans e (if_neg q).symm); have ht := fun q_ v S9 e => ht q_ v S9 (Eq.trans e (if_neg q).symm)
      exact xj_E.thr rfl rfl rfl rfl rfl (ht 1 _ _ rfl)
  · have hd := hd.2 q
    have h := fun v S9 e => h v S9 (Eq.trans e (if_neg q).symm); have ht := fun q_ v S9 e => ht q_ v S9 (Eq.trans e (if_neg q).symm)
    exact xj_E.thr rfl rfl rfl rfl rfl (ht 3 _ _ rfl)
