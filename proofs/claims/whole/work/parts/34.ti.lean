/-! a method that may throw: our machine does so -/
set_option maxHeartbeats 4000000 in
set_option maxRecDepth 100000 in
theorem ok_c_set {L : Nat} {xs : Nat → Int32} {T : Nat → Nat → Int64} {D : Nat} {S : (Nat → Nat → Int32)} {P : (Option Value ⊕ Nat) → xj_W → Nat → Nat → Prop} {a b : Int32} (hD : 606 ≤ D) (hd : d_c_set a b S) (h : ∀ v S9, (0, v, S9) = f_c_set a b S → P (.inl (some (.int v))) (SH, S9, T) 0 0) (ht : ∀ q v S9, (q + 1, v, S9) = f_c_set a b S → P (.inr q) (SH, S9, T) 1 6) : xj_E (xX L xs) D 34 0 [(0, .ref 0), (1, .int a), (2, .int b)] [] (SH, S, T) P := by
  unfold d_c_set at hd
  unfold f_c_set at h ht
  obtain ⟨D1, rfl⟩ : ∃ D1, D = D1 + 1 := ⟨D - 1, by omega⟩
  refine xj_E.adv 1 (pc' := 1) (ls' := [(0, .ref 0), (1, .int a), (2, .int b)]) (st' := [.int a]) (w' := (SH, S, T)) rfl ?_
  refine xj_E.calli (d := D1) (S := SH) rfl rfl rfl rfl rfl (xj_E.deep (ok_c_isVariable (d := 0) hd.1 ?_) (by omega))
  intro w1 f1
  refine ⟨_, _, _, rfl, rfl, rfl, rfl, ?_⟩
  have hd := hd.2
  rw [← f1] at hd
  have h : ∀ v S9, (0, v, S9) = ((if (r_c_isVariable S a) ≠ 0 then (match f_c_openCommand S with | (_, S1) => if (S1 20 a.toNatClampNeg) = b then (f_c_workOff S1) else (match f_c_markAll (r_p_partsHearing (xj_set S1 20 a.toNatClampNeg b) (100 + a) (-1)) (xj_set S1 20 a.toNatClampNeg b) with | (_, S2) => f_c_workOff S2)) else ((2, 0, S))) : Nat × Int32 × (Nat → Nat → Int32)) → P (.inl (some (.int v))) (SH, S9, T) 0 0 := h
  rw [← f1] at h
  have ht : ∀ q v S9, (q + 1, v, S9) = ((if (r_c_isVariable S a) ≠ 0 then (match f_c_openCommand S with | (_, S1) => if (S1 20 a.toNatClampNeg) = b then (f_c_workOff S1) else (match f_c_markAll (r_p_partsHearing (xj_set S1 20 a.toNatClampNeg b) (100 + a) (-1)) (xj_set S1 20 a.toNatClampNeg b) with | (_, S2) => f_c_workOff S2)) else ((2, 0, S))) : Nat × Int32 × (Nat → Nat → Int32)) → P (.inr q) (SH, S9, T) 1 6 := ht
  rw [← f1] at ht
  refine xj_E.adv 1 (pc' := (if xj_cmp .ne w1 0 = true then 17 else 7)) (ls' := [(0, .ref 0), (1, .int a), (2, .int b)]) (st' := []) (w' := (SH, S, T)) rfl ?_
  refine xj_E.b_ne (fun q => ?_) (fun q => ?_)
  · have hd := hd.1 q
    have h := fun v S9 e => h v S9 (Eq.trans e (if_pos q).symm); have ht := fun q_ v S9 e => ht q_ v S9 (Eq.trans e (if_pos q).symm)
    refine xj_E.adv 1 (pc' := 18) (ls' := [(0, .ref 0), (1, .int a), (2, .int b)]) (st' := [.ref 0]) (w' := (SH, S, T)) rfl ?_
    refine xj_E.callv (d := D1) (S := SH) rfl rfl rfl rfl rfl (ok_c_openCommand (by omega) hd.1 ?_)
    intro v1 S1 e1
    refine ⟨_, _, rfl, rfl, rfl, rfl, ?_⟩
    have hd := hd.2
    generalize f_c_openCommand S = Xe1 at e1 hd h ht
    subst e1
    have h : ∀ v S9, (0, v, S9) = ((if (S1 20 a.toNatClampNeg) = b then (f_c_workOff S1) else (match f_c_markAll (r_p_partsHearing (xj_set S1 20 a.toNatClampNeg b) (100 + a) (-1)) (xj_set S1 20 a.toNatClampNeg b) with | (_, S2) => f_c_workOff S2)) : Nat × Int32 × (Nat → Nat → Int32)) → P (.inl (some (.int v))) (SH, S9, T) 0 0 := h
    have ht : ∀ q v S9, (q + 1, v, S9) = ((if (S1 20 a.toNatClampNeg) = b then (f_c_workOff S1) else (match f_c_markAll (r_p_partsHearing (xj_set S1 20 a.toNatClampNeg b) (100 + a) (-1)) (xj_set S1 20 a.toNatClampNeg b) with | (_, S2) => f_c_workOff S2)) : Nat × Int32 × (Nat → Nat → Int32)) → P (.inr q) (SH, S9, T) 1 6 := ht
    refine xj_E.adv 4 (pc' := 29) (ls' := [(0, .ref 0), (1, .int a), (2, .int b)]) (st' := [.int a, .ref 20]) (w' := (SH, S1, T)) rfl ?_
    refine xj_E.iald rfl rfl hd.1 ?_
    have hd := hd.2
    refine xj_E.adv 2 (pc' := (if xj_cmp .eq (S1 20 a.toNatClampNeg) b = true then 60 else 34)) (ls' := [(0, .ref 0), (1, .int a), (2, .int b)]) (st' := []) (w' := (SH, S1, T)) rfl ?_
    refine xj_E.b_eq (fun q => ?_) (fun q => ?_)
    · have hd := hd.1 q
      have h := fun v S9 e => h v S9 (Eq.trans e (if_pos q).symm); have ht := fun q_ v S9 e => ht q_ v S9 (Eq.trans e (if_pos q).symm)
      refine xj_E.adv 1 (pc' := 61) (ls' := [(0, .ref 0), (1, .int a), (2, .int b)]) (st' := [.ref 0]) (w' := (SH, S1, T)) rfl ?_
      refine xj_E.callt rfl rfl rfl rfl rfl rfl (fun _ => rfl) (ok_c_workOff (by omega) hd ?_ ?_)
      · intro v S9 e
        exact ⟨rfl, rfl, xj_E.ret rfl rfl rfl rfl (h _ _ e)⟩
      · intro q v S9 e
        exact ht _ _ _ e
    · have hd := hd.2 q
      have h := fun v S9 e => h v S9 (Eq.trans e (if_neg q).symm); have ht := fun q_ v S9 e => ht q_ v S9 (Eq.trans e (if_neg q).symm)
      refine xj_E.adv 5 (pc' := 43) (ls' := [(0, .ref 0), (1, .int a), (2, .int b)]) (st' := [.int b, .int a, .ref 20]) (w' := (SH, S1, T)) rfl ?_
      refine xj_E.iast rfl rfl hd.1 ?_
      have hd := hd.2
      refine xj_E.adv 7 (pc' := 54) (ls' := [(0, .ref 0), (1, .int a), (2, .int b)]) (st' := [.int (-1), .int (100 + a), .ref 1, .ref 0]) (w' := (SH, (xj_set S1 20 a.toNatClampNeg b), T)) rfl ?_
      refine xj_E.calli (d := D1) (S := SH) rfl rfl rfl rfl rfl (xj_E.deep (ok_p_partsHearing (d := 0) hd.1 ?_) (by omega))
      intro w2 f2
      refine ⟨_, _, _, rfl, rfl, rfl, rfl, ?_⟩
      have hd := hd.2
      rw [← f2] at hd
      have h : ∀ v S9, (0, v, S9) = ((match f_c_markAll (r_p_partsHearing (xj_set S1 20 a.toNatClampNeg b) (100 + a) (-1)) (xj_set S1 20 a.toNatClampNeg b) with | (_, S2) => f_c_workOff S2) : Nat × Int32 × (Nat → Nat → Int32)) → P (.inl (some (.int v))) (SH, S9, T) 0 0 := h
      rw [← f2] at h
      have ht : ∀ q v S9, (q + 1, v, S9) = ((match f_c_markAll (r_p_partsHearing (xj_set S1 20 a.toNatClampNeg b) (100 + a) (-1)) (xj_set S1 20 a.toNatClampNeg b) with | (_, S2) => f_c_workOff S2) : Nat × Int32 × (Nat → Nat → Int32)) → P (.inr q) (SH, S9, T) 1 6 := ht
      rw [← f2] at ht
      refine xj_E.callv (d := D1) (S := SH) rfl rfl rfl rfl rfl (ok_c_markAll (by omega) hd.1 ?_)
      intro v2 S2 e2
      refine ⟨_, _, rfl, rfl, rfl, rfl, ?_⟩
      have hd := hd.2
      generalize f_c_markAll w2 (xj_set S1 20 a.toNatClampNeg b) = Xe2 at e2 hd h ht
      subst e2
      refine xj_E.adv 1 (pc' := 61) (ls' := [(0, .ref 0), (1, .int a), (2, .int b)]) (st' := [.ref 0]) (w' := (SH, S2, T)) rfl ?_
      refine xj_E.callt rfl rfl rfl rfl rfl rfl (fun _ => rfl) (ok_c_workOff (by omega) hd ?_ ?_)
      · intro v S9 e
        exact ⟨rfl, rfl, xj_E.ret rfl rfl rfl rfl (h _ _ e)⟩
      · intro q v S9 e
        exact ht _ _ _ e
  · have hd := hd.2 q
    have h := fun v S9 e => h v S9 (Eq.trans e (if_neg q).symm); have ht := fun q_ v S9 e => ht q_ v S9 (Eq.trans e (if_neg q).symm)
    exact xj_E.thr rfl rfl rfl rfl rfl (ht 1 _ _ rfl)
