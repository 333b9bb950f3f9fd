/-! a method that may throw: our machine does so -/
set_option maxHeartbeats 4000000 in
set_option maxRecDepth 100000 in
theorem ok_c_on {L : Nat} {xs : Nat → Int32} {T : Nat → Nat → Int64} {D : Nat} {S : (Nat → Nat → Int32)} {P : (Option Value ⊕ Nat) → xj_W → Nat → Nat → Prop} {a b c : Int32} (hD : 2 ≤ D) (hd : d_c_on a b c S) (h : ∀ v S9, (0, v, S9) = f_c_on a b c S → P (.inl (some (.int v))) (SH, S9, T) 0 0) (ht : ∀ q v S9, (q + 1, v, S9) = f_c_on a b c S → P (.inr q) (SH, S9, T) 1 6) : xj_E (xX L xs) D 30 0 [(0, .ref 0), (1, .int a), (2, .int b), (3, .int c)] [] (SH, S, T) P := by
  unfold d_c_on at hd
  unfold f_c_on at h ht
  obtain ⟨D1, rfl⟩ : ∃ D1, D = D1 + 1 := ⟨D - 1, by omega⟩
  refine xj_E.adv 2 (pc' := 4) (ls' := [(0, .ref 0), (1, .int a), (2, .int b), (3, .int c)]) (st' := [.ref 14]) (w' := (SH, S, T)) rfl ?_
  refine xj_E.calli (d := D1) (S := SH) rfl rfl rfl rfl rfl (xj_E.deep (ok_l_hasBegun (d := 0) hd.1 ?_) (by omega))
  intro w1 f1
  refine ⟨_, _, _, rfl, rfl, rfl, rfl, ?_⟩
  have hd := hd.2
  rw [← f1] at hd
  have h : ∀ v S9, (0, v, S9) = ((if (r_l_hasBegun S) ≠ 0 then ((1, 0, S)) else (if (r_p_hasAllParts S a) = 0 then (if (r_p_hasSentry S a) = 0 then ((2, 0, S)) else (if (r_p_mayHear S a b c) ≠ 0 then (match f_p_addPart a b c S with | (v1, S1) => (0, v1, S1)) else ((2, 0, S)))) else ((1, 0, S)))) : Nat × Int32 × (Nat → Nat → Int32)) → P (.inl (some (.int v))) (SH, S9, T) 0 0 := h
  rw [← f1] at h
  have ht : ∀ q v S9, (q + 1, v, S9) = ((if (r_l_hasBegun S) ≠ 0 then ((1, 0, S)) else (if (r_p_hasAllParts S a) = 0 then (if (r_p_hasSentry S a) = 0 then ((2, 0, S)) else (if (r_p_mayHear S a b c) ≠ 0 then (match f_p_addPart a b c S with | (v1, S1) => (0, v1, S1)) else ((2, 0, S)))) else ((1, 0, S)))) : Nat × Int32 × (Nat → Nat → Int32)) → P (.inr q) (SH, S9, T) 1 6 := ht
  rw [← f1] at ht
  refine xj_E.adv 1 (pc' := (if xj_cmp .ne w1 0 = true then 21 else 10)) (ls' := [(0, .ref 0), (1, .int a), (2, .int b), (3, .int c)]) (st' := []) (w' := (SH, S, T)) rfl ?_
  refine xj_E.b_ne (fun q => ?_) (fun q => ?_)
  · have hd := hd.1 q
    have h := fun v S9 e => h v S9 (Eq.trans e (if_pos q).symm); have ht := fun q_ v S9 e => ht q_ v S9 (Eq.trans e (if_pos q).symm)
    exact xj_E.thr rfl rfl rfl rfl rfl (ht 0 _ _ rfl)
  · have hd := hd.2 q
    have h := fun v S9 e => h v S9 (Eq.trans e (if_neg q).symm); have ht := fun q_ v S9 e => ht q_ v S9 (Eq.trans e (if_neg q).symm)
    refine xj_E.adv 3 (pc' := 15) (ls' := [(0, .ref 0), (1, .int a), (2, .int b), (3, .int c)]) (st' := [.int a, .ref 1]) (w' := (SH, S, T)) rfl ?_
    refine xj_E.calli (d := D1) (S := SH) rfl rfl rfl rfl rfl (xj_E.deep (ok_p_hasAllParts (d := 0) hd.1 ?_) (by omega))
    intro w2 f2
    refine ⟨_, _, _, rfl, rfl, rfl, rfl, ?_⟩
    have hd := hd.2
    rw [← f2] at hd
    have h : ∀ v S9, (0, v, S9) = ((if (r_p_hasAllParts S a) = 0 then (if (r_p_hasSentry S a) = 0 then ((2, 0, S)) else (if (r_p_mayHear S a b c) ≠ 0 then (match f_p_addPart a b c S with | (v1, S1) => (0, v1, S1)) else ((2, 0, S)))) else ((1, 0, S))) : Nat × Int32 × (Nat → Nat → Int32)) → P (.inl (some (.int v))) (SH, S9, T) 0 0 := h
    rw [← f2] at h
    have ht : ∀ q v S9, (q + 1, v, S9) = ((if (r_p_hasAllParts S a) = 0 then (if (r_p_hasSentry S a) = 0 then ((2, 0, S)) else (if (r_p_mayHear S a b c) ≠ 0 then (match f_p_addPart a b c S with | (v1, S1) => (0, v1, S1)) else ((2, 0, S)))) else ((1, 0, S))) : Nat × Int32 × (Nat → Nat → Int32)) → P (.inr q) (SH, S9, T) 1 6 := ht
    rw [← f2] at ht
    refine xj_E.adv 1 (pc' := (if xj_cmp .eq w2 0 = true then 31 else 21)) (ls' := [(0, .ref 0), (1, .int a), (2, .int b), (3, .int c)]) (st' := []) (w' := (SH, S, T)) rfl ?_
    refine xj_E.b_eq (fun q => ?_) (fun q => ?_)
    · have hd := hd.1 q
      have h := fun v S9 e => h v S9 (Eq.trans e (if_pos q).symm); have ht := fun q_ v S9 e => ht q_ v S9 (Eq.trans e (if_pos q).symm)
      refine xj_E.adv 3 (pc' := 36) (ls' := [(0, .ref 0), (1, .int a), (2, .int b), (3, .int c)]) (st' := [.int a, .ref 1]) (w' := (SH, S, T)) rfl ?_
      refine xj_E.calli (d := D1) (S := SH) rfl rfl rfl rfl rfl (xj_E.deep (ok_p_hasSentry (d := 0) hd.1 ?_) (by omega))
      intro w3 f3
      refine ⟨_, _, _, rfl, rfl, rfl, rfl, ?_⟩
      have hd := hd.2
      rw [← f3] at hd
      have h : ∀ v S9, (0, v, S9) = ((if (r_p_hasSentry S a) = 0 then ((2, 0, S)) else (if (r_p_mayHear S a b c) ≠ 0 then (match f_p_addPart a b c S with | (v1, S1) => (0, v1, S1)) else ((2, 0, S)))) : Nat × Int32 × (Nat → Nat → Int32)) → P (.inl (some (.int v))) (SH, S9, T) 0 0 := h
      rw [← f3] at h
      have ht : ∀ q v S9, (q + 1, v, S9) = ((if (r_p_hasSentry S a) = 0 then ((2, 0, S)) else (if (r_p_mayHear S a b c) ≠ 0 then (match f_p_addPart a b c S with | (v1, S1) => (0, v1, S1)) else ((2, 0, S)))) : Nat × Int32 × (Nat → Nat → Int32)) → P (.inr q) (SH, S9, T) 1 6 := ht
      rw [← f3] at ht
      refine xj_E.adv 1 (pc' := (if xj_cmp .eq w3 0 = true then 55 else 42)) (ls' := [(0, .ref 0), (1, .int a), (2, .int b), (3, .int c)]) (st' := []) (w' := (SH, S, T)) rfl ?_
      refine xj_E.b_eq (fun q => ?_) (fun q => ?_)
      · have hd := hd.1 q
        have h := fun v S9 e => h v S9 (Eq.trans e (if_pos q).symm); have ht := fun q_ v S9 e => ht q_ v S9 (Eq.trans e (if_pos q).symm)
        exact xj_E.thr rfl rfl rfl rfl rfl (ht 1 _ _ rfl)
      · have hd := hd.2 q
        have h := fun v S9 e => h v S9 (Eq.trans e (if_neg q).symm); have ht := fun q_ v S9 e => ht q_ v S9 (Eq.trans e (if_neg q).symm)
        refine xj_E.adv 5 (pc' := 49) (ls' := [(0, .ref 0), (1, .int a), (2, .int b), (3, .int c)]) (st' := [.int c, .int b, .int a, .ref 1]) (w' := (SH, S, T)) rfl ?_
        refine xj_E.calli (d := D1) (S := SH) rfl rfl rfl rfl rfl (xj_E.deep (ok_p_mayHear (d := 0) hd.1 ?_) (by omega))
        intro w4 f4
        refine ⟨_, _, _, rfl, rfl, rfl, rfl, ?_⟩
        have hd := hd.2
        rw [← f4] at hd
        have h : ∀ v S9, (0, v, S9) = ((if (r_p_mayHear S a b c) ≠ 0 then (match f_p_addPart a b c S with | (v1, S1) => (0, v1, S1)) else ((2, 0, S))) : Nat × Int32 × (Nat → Nat → Int32)) → P (.inl (some (.int v))) (SH, S9, T) 0 0 := h
        rw [← f4] at h
        have ht : ∀ q v S9, (q + 1, v, S9) = ((if (r_p_mayHear S a b c) ≠ 0 then (match f_p_addPart a b c S with | (v1, S1) => (0, v1, S1)) else ((2, 0, S))) : Nat × Int32 × (Nat → Nat → Int32)) → P (.inr q) (SH, S9, T) 1 6 := ht
        rw [← f4] at ht
        refine xj_E.adv 1 (pc' := (if xj_cmp .ne w4 0 = true then 65 else 55)) (ls' := [(0, .ref 0), (1, .int a), (2, .int b), (3, .int c)]) (st' := []) (w' := (SH, S, T)) rfl ?_
        refine xj_E.b_ne (fun q => ?_) (fun q => ?_)
        · have hd := hd.1 q
          have h := fun v S9 e => h v S9 (Eq.trans e (if_pos q).symm); have ht := fun q_ v S9 e => ht q_ v S9 (Eq.trans e (if_pos q).symm)
          refine xj_E.adv 5 (pc' := 72) (ls' := [(0, .ref 0), (1, .int a), (2, .int b), (3, .int c)]) (st' := [.int c, .int b, .int a, .ref 1]) (w' := (SH, S, T)) rfl ?_
          refine xj_E.calli (d := D1) (S := SH) rfl rfl rfl rfl rfl (ok_p_addPart (by omega) hd.1 ?_)
          intro v1 S1 e1
          refine ⟨_, _, _, rfl, rfl, rfl, rfl, ?_⟩
          have hd := hd.2
          generalize f_p_addPart a b c S = Xe1 at e1 hd h ht
          subst e1
          exact xj_E.ret rfl rfl rfl rfl (h _ _ rfl)
        · have hd := hd.2 q
          have h := fun v S9 e => h v S9 (Eq.trans e (if_neg q).symm); have ht := fun q_ v S9 e => ht q_ v S9 (Eq.trans e (if_neg q).symm)
          exact xj_E.thr rfl rfl rfl rfl rfl (ht 1 _ _ rfl)
    · have hd := hd.2 q
      have h := fun v S9 e => h v S9 (Eq.trans e (if_neg q).symm); have ht := fun q_ v S9 e => ht q_ v S9 (Eq.trans e (if_neg q).symm)
      exact xj_E.thr rfl rfl rfl rfl rfl (ht 0 _ _ rfl)
