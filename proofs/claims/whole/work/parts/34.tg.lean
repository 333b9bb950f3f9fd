/-! a method that may throw: our machine does so -/
set_option maxHeartbeats 4000000 in
set_option maxRecDepth 100000 in
theorem ok_c_begin {L : Nat} {xs : Nat → Int32} {T : Nat → Nat → Int64} {D : Nat} {S : (Nat → Nat → Int32)} {P : (Option Value ⊕ Nat) → xj_W → Nat → Nat → Prop} {a : Int32} (hD : 606 ≤ D) (hd : d_c_begin a S) (h : ∀ v S9, (0, v, S9) = f_c_begin a S → P (.inl (some (.int v))) (SH, S9, T) 0 0) (ht : ∀ q v S9, (q + 1, v, S9) = f_c_begin a S → P (.inr q) (SH, S9, T) 1 6) : xj_E (xX L xs) D 32 0 [(0, .ref 0), (1, .int a)] [] (SH, S, T) P := by
  unfold d_c_begin at hd
  unfold f_c_begin at h ht
  obtain ⟨D1, rfl⟩ : ∃ D1, D = D1 + 1 := ⟨D - 1, by omega⟩
  refine xj_E.adv 2 (pc' := 4) (ls' := [(0, .ref 0), (1, .int a)]) (st' := [.ref 14]) (w' := (SH, S, T)) rfl ?_
  refine xj_E.calli (d := D1) (S := SH) rfl rfl rfl rfl rfl (xj_E.deep (ok_l_hasBegun (d := 0) hd.1 ?_) (by omega))
  intro w1 f1
  refine ⟨_, _, _, rfl, rfl, rfl, rfl, ?_⟩
  have hd := hd.2
  rw [← f1] at hd
  have h : ∀ v S9, (0, v, S9) = ((if (r_l_hasBegun S) = 0 then (if a < 2 then ((2, 0, S)) else (if a ≤ 60 then (match f_c_openCommand S with | (_, S1) => match f_c_create 0 (-1) 0 (xj_set S1 14 0 a) with | (_, S2) => match f_c_make 0 2 0 S2 with | (_, S3) => f_c_workOff S3) else ((2, 0, S)))) else ((1, 0, S))) : Nat × Int32 × (Nat → Nat → Int32)) → P (.inl (some (.int v))) (SH, S9, T) 0 0 := h
  rw [← f1] at h
  have ht : ∀ q v S9, (q + 1, v, S9) = ((if (r_l_hasBegun S) = 0 then (if a < 2 then ((2, 0, S)) else (if a ≤ 60 then (match f_c_openCommand S with | (_, S1) => match f_c_create 0 (-1) 0 (xj_set S1 14 0 a) with | (_, S2) => match f_c_make 0 2 0 S2 with | (_, S3) => f_c_workOff S3) else ((2, 0, S)))) else ((1, 0, S))) : Nat × Int32 × (Nat → Nat → Int32)) → P (.inr q) (SH, S9, T) 1 6 := ht
  rw [← f1] at ht
  refine xj_E.adv 1 (pc' := (if xj_cmp .eq w1 0 = true then 20 else 10)) (ls' := [(0, .ref 0), (1, .int a)]) (st' := []) (w' := (SH, S, T)) rfl ?_
  refine xj_E.b_eq (fun q => ?_) (fun q => ?_)
  · have hd := hd.1 q
    have h := fun v S9 e => h v S9 (Eq.trans e (if_pos q).symm); have ht := fun q_ v S9 e => ht q_ v S9 (Eq.trans e (if_pos q).symm)
    refine xj_E.adv 3 (pc' := (if xj_cmp .lt a 2 = true then 31 else 25)) (ls' := [(0, .ref 0), (1, .int a)]) (st' := []) (w' := (SH, S, T)) rfl ?_
    refine xj_E.b_lt (fun q => ?_) (fun q => ?_)
    · have hd := hd.1 q
      have h := fun v S9 e => h v S9 (Eq.trans e (if_pos q).symm); have ht := fun q_ v S9 e => ht q_ v S9 (Eq.trans e (if_pos q).symm)
      exact xj_E.thr rfl rfl rfl rfl rfl (ht 1 _ _ rfl)
    · have hd := hd.2 q
      have h := fun v S9 e => h v S9 (Eq.trans e (if_neg q).symm); have ht := fun q_ v S9 e => ht q_ v S9 (Eq.trans e (if_neg q).symm)
      refine xj_E.adv 3 (pc' := (if xj_cmp .le a 60 = true then 41 else 31)) (ls' := [(0, .ref 0), (1, .int a)]) (st' := []) (w' := (SH, S, T)) rfl ?_
      refine xj_E.b_le (fun q => ?_) (fun q => ?_)
      · have hd := hd.1 q
        have h := fun v S9 e => h v S9 (Eq.trans e (if_pos q).symm); have ht := fun q_ v S9 e => ht q_ v S9 (Eq.trans e (if_pos q).symm)
        refine xj_E.adv 1 (pc' := 42) (ls' := [(0, .ref 0), (1, .int a)]) (st' := [.ref 0]) (w' := (SH, S, T)) rfl ?_
        refine xj_E.callv (d := D1) (S := SH) rfl rfl rfl rfl rfl (ok_c_openCommand (by omega) hd.1 ?_)
        intro v1 S1 e1
        refine ⟨_, _, rfl, rfl, rfl, rfl, ?_⟩
        have hd := hd.2
        generalize f_c_openCommand S = Xe1 at e1 hd h ht
        subst e1
        have h : ∀ v S9, (0, v, S9) = ((match f_c_create 0 (-1) 0 (xj_set S1 14 0 a) with | (_, S2) => match f_c_make 0 2 0 S2 with | (_, S3) => f_c_workOff S3) : Nat × Int32 × (Nat → Nat → Int32)) → P (.inl (some (.int v))) (SH, S9, T) 0 0 := h
        have ht : ∀ q v S9, (q + 1, v, S9) = ((match f_c_create 0 (-1) 0 (xj_set S1 14 0 a) with | (_, S2) => match f_c_make 0 2 0 S2 with | (_, S3) => f_c_workOff S3) : Nat × Int32 × (Nat → Nat → Int32)) → P (.inr q) (SH, S9, T) 1 6 := ht
        refine xj_E.adv 8 (pc' := 57) (ls' := [(0, .ref 0), (1, .int a)]) (st' := [.int 0, .int (-1), .int 0, .ref 0]) (w' := (SH, (xj_set S1 14 0 a), T)) rfl ?_
        refine xj_E.callv (d := D1) (S := SH) rfl rfl rfl rfl rfl (ok_c_create (by omega) hd.1 ?_)
        intro v2 S2 e2
        refine ⟨_, _, rfl, rfl, rfl, rfl, ?_⟩
        have hd := hd.2
        generalize f_c_create 0 (-1) 0 (xj_set S1 14 0 a) = Xe2 at e2 hd h ht
        subst e2
        have h : ∀ v S9, (0, v, S9) = ((match f_c_make 0 2 0 S2 with | (_, S3) => f_c_workOff S3) : Nat × Int32 × (Nat → Nat → Int32)) → P (.inl (some (.int v))) (SH, S9, T) 0 0 := h
        have ht : ∀ q v S9, (q + 1, v, S9) = ((match f_c_make 0 2 0 S2 with | (_, S3) => f_c_workOff S3) : Nat × Int32 × (Nat → Nat → Int32)) → P (.inr q) (SH, S9, T) 1 6 := ht
        refine xj_E.adv 4 (pc' := 64) (ls' := [(0, .ref 0), (1, .int a)]) (st' := [.int 0, .int 2, .int 0, .ref 0]) (w' := (SH, S2, T)) rfl ?_
        refine xj_E.callv (d := D1) (S := SH) rfl rfl rfl rfl rfl (ok_c_make (by omega) hd.1 ?_)
        intro v3 S3 e3
        refine ⟨_, _, rfl, rfl, rfl, rfl, ?_⟩
        have hd := hd.2
        generalize f_c_make 0 2 0 S2 = Xe3 at e3 hd h ht
        subst e3
        refine xj_E.adv 1 (pc' := 68) (ls' := [(0, .ref 0), (1, .int a)]) (st' := [.ref 0]) (w' := (SH, S3, T)) rfl ?_
        refine xj_E.callt rfl rfl rfl rfl rfl rfl (fun _ => rfl) (ok_c_workOff (by omega) hd ?_ ?_)
        · intro v S9 e
          exact ⟨rfl, rfl, xj_E.ret rfl rfl rfl rfl (h _ _ e)⟩
        · intro q v S9 e
          exact ht _ _ _ e
      · have hd := hd.2 q
        have h := fun v S9 e => h v S9 (Eq.trans e (if_neg q).symm); have ht := fun q_ v S9 e => ht q_ v S9 (Eq.trans e (if_neg q).symm)
        exact xj_E.thr rfl rfl rfl rfl rfl (ht 1 _ _ rfl)
  · have hd := hd.2 q
    have h := fun v S9 e => h v S9 (Eq.trans e (if_neg q).symm); have ht := fun q_ v S9 e => ht q_ v S9 (Eq.trans e (if_neg q).symm)
    exact xj_E.thr rfl rfl rfl rfl rfl (ht 0 _ _ rfl)
