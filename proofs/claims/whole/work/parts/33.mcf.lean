/-! a method that stores: our machine does so -/
set_option maxHeartbeats 4000000 in
set_option maxRecDepth 100000 in
theorem ok_c_letIn {L : Nat} {xs : Nat → Int32} {T : Nat → Nat → Int64} {D : Nat} {S : (Nat → Nat → Int32)} {P : (Option Value ⊕ Nat) → xj_W → Nat → Nat → Prop} {a : Int32} (hD : 604 ≤ D) (hd : d_c_letIn a S) (h : ∀ v S9, (v, S9) = f_c_letIn a S → P (.inl none) (SH, S9, T) 0 0) : xj_E (xX L xs) D 52 0 [(0, .ref 0), (1, .int a)] [] (SH, S, T) P := by
  unfold d_c_letIn at hd
  unfold f_c_letIn at h
  obtain ⟨D1, rfl⟩ : ∃ D1, D = D1 + 1 := ⟨D - 1, by omega⟩
  refine xj_E.adv 4 (pc' := 8) (ls' := [(0, .ref 0), (1, .int a)]) (st' := [.int a, .ref 15]) (w' := (SH, S, T)) rfl ?_
  refine xj_E.iald rfl rfl hd.1 ?_
  have hd := hd.2
  refine xj_E.adv 5 (pc' := 16) (ls' := [(2, .int (S 15 a.toNatClampNeg)), (0, .ref 0), (1, .int a)]) (st' := [.int 1, .int (S 15 a.toNatClampNeg), .ref 1]) (w' := (SH, S, T)) rfl ?_
  refine xj_E.calli (d := D1) (S := SH) rfl rfl rfl rfl rfl (xj_E.deep (ok_p_hasFlag (d := 0) hd.1 ?_) (by omega))
  intro w1 f1
  refine ⟨_, _, _, rfl, rfl, rfl, rfl, ?_⟩
  have hd := hd.2
  rw [← f1] at hd
  have h : ∀ v S9, (v, S9) = ((if (r_p_hasFlag S (S 15 a.toNatClampNeg) 1) = 0 then (if (S 2 (S 15 a.toNatClampNeg).toNatClampNeg) ≠ 2 then (if (r_p_hasFlag S (S 15 a.toNatClampNeg) 4) = 0 then (match f_c_make a 2 0 S with | (_, S1) => (0, S1)) else (match f_c_make a 1 0 S with | (_, S2) => (0, S2))) else (match f_c_make a 3 0 S with | (_, S3) => (0, S3))) else (if (r_p_hasEntry S (S 15 a.toNatClampNeg)) = 0 then (if (S 2 (S 15 a.toNatClampNeg).toNatClampNeg) ≠ 2 then (if (r_p_hasFlag S (S 15 a.toNatClampNeg) 4) = 0 then (match f_c_make a 2 0 S with | (_, S4) => (0, S4)) else (match f_c_make a 1 0 S with | (_, S5) => (0, S5))) else (match f_c_make a 3 0 S with | (_, S6) => (0, S6))) else (match f_c_create (S 15 a.toNatClampNeg) (S 16 a.toNatClampNeg) 0 S with | (_, S7) => if (S7 2 (S 15 a.toNatClampNeg).toNatClampNeg) ≠ 2 then (if (r_p_hasFlag S7 (S 15 a.toNatClampNeg) 4) = 0 then (match f_c_make a 2 0 S7 with | (_, S8) => (0, S8)) else (match f_c_make a 1 0 S7 with | (_, S9) => (0, S9))) else (match f_c_make a 3 0 S7 with | (_, S10) => (0, S10))))) : Int32 × (Nat → Nat → Int32)) → P (.inl none) (SH, S9, T) 0 0 := h
  rw [← f1] at h
  refine xj_E.adv 1 (pc' := (if xj_cmp .eq w1 0 = true then 48 else 22)) (ls' := [(2, .int (S 15 a.toNatClampNeg)), (0, .ref 0), (1, .int a)]) (st' := []) (w' := (SH, S, T)) rfl ?_
  refine xj_E.b_eq (fun q => ?_) (fun q => ?_)
  · have hd := hd.1 q
    have h := fun v S9 e => h v S9 (Eq.trans e (if_pos q).symm)
    refine xj_E.adv 4 (pc' := 56) (ls' := [(2, .int (S 15 a.toNatClampNeg)), (0, .ref 0), (1, .int a)]) (st' := [.int (S 15 a.toNatClampNeg), .ref 2]) (w' := (SH, S, T)) rfl ?_
    refine xj_E.iald rfl rfl hd.1 ?_
    have hd := hd.2
    refine xj_E.adv 2 (pc' := (if xj_cmp .ne (S 2 (S 15 a.toNatClampNeg).toNatClampNeg) 2 = true then 71 else 61)) (ls' := [(2, .int (S 15 a.toNatClampNeg)), (0, .ref 0), (1, .int a)]) (st' := []) (w' := (SH, S, T)) rfl ?_
    refine xj_E.b_ne (fun q => ?_) (fun q => ?_)
    · have hd := hd.1 q
      have h := fun v S9 e => h v S9 (Eq.trans e (if_pos q).symm)
      refine xj_E.adv 6 (pc' := 79) (ls' := [(2, .int (S 15 a.toNatClampNeg)), (0, .ref 0), (1, .int a)]) (st' := [.int 4, .int (S 15 a.toNatClampNeg), .ref 1, .int a, .ref 0]) (w' := (SH, S, T)) rfl ?_
      refine xj_E.calli (d := D1) (S := SH) rfl rfl rfl rfl rfl (xj_E.deep (ok_p_hasFlag (d := 0) hd.1 ?_) (by omega))
      intro w2 f2
      refine ⟨_, _, _, rfl, rfl, rfl, rfl, ?_⟩
      have hd := hd.2
      rw [← f2] at hd
      have h : ∀ v S9, (v, S9) = ((if (r_p_hasFlag S (S 15 a.toNatClampNeg) 4) = 0 then (match f_c_make a 2 0 S with | (_, S1) => (0, S1)) else (match f_c_make a 1 0 S with | (_, S2) => (0, S2))) : Int32 × (Nat → Nat → Int32)) → P (.inl none) (SH, S9, T) 0 0 := h
      rw [← f2] at h
      refine xj_E.adv 1 (pc' := (if xj_cmp .eq w2 0 = true then 89 else 85)) (ls' := [(2, .int (S 15 a.toNatClampNeg)), (0, .ref 0), (1, .int a)]) (st' := [.int a, .ref 0]) (w' := (SH, S, T)) rfl ?_
      refine xj_E.b_eq (fun q => ?_) (fun q => ?_)
      · have hd := hd.1 q
        have h := fun v S9 e => h v S9 (Eq.trans e (if_pos q).symm)
        refine xj_E.adv 2 (pc' := 91) (ls' := [(2, .int (S 15 a.toNatClampNeg)), (0, .ref 0), (1, .int a)]) (st' := [.int 0, .int 2, .int a, .ref 0]) (w' := (SH, S, T)) rfl ?_
        refine xj_E.callv (d := D1) (S := SH) rfl rfl rfl rfl rfl (ok_c_make (by omega) hd.1 ?_)
        intro v1 S1 e1
        refine ⟨_, _, rfl, rfl, rfl, rfl, ?_⟩
        have hd := hd.2
        generalize f_c_make a 2 0 S = Xe1 at e1 hd h
        subst e1
        exact xj_E.ret rfl rfl rfl rfl (h _ _ rfl)
      · have hd := hd.2 q
        have h := fun v S9 e => h v S9 (Eq.trans e (if_neg q).symm)
        refine xj_E.adv 3 (pc' := 91) (ls' := [(2, .int (S 15 a.toNatClampNeg)), (0, .ref 0), (1, .int a)]) (st' := [.int 0, .int 1, .int a, .ref 0]) (w' := (SH, S, T)) rfl ?_
        refine xj_E.callv (d := D1) (S := SH) rfl rfl rfl rfl rfl (ok_c_make (by omega) hd.1 ?_)
        intro v2 S2 e2
        refine ⟨_, _, rfl, rfl, rfl, rfl, ?_⟩
        have hd := hd.2
        generalize f_c_make a 1 0 S = Xe2 at e2 hd h
        subst e2
        exact xj_E.ret rfl rfl rfl rfl (h _ _ rfl)
    · have hd := hd.2 q
      have h := fun v S9 e => h v S9 (Eq.trans e (if_neg q).symm)
      refine xj_E.adv 4 (pc' := 65) (ls' := [(2, .int (S 15 a.toNatClampNeg)), (0, .ref 0), (1, .int a)]) (st' := [.int 0, .int 3, .int a, .ref 0]) (w' := (SH, S, T)) rfl ?_
      refine xj_E.callv (d := D1) (S := SH) rfl rfl rfl rfl rfl (ok_c_make (by omega) hd.1 ?_)
      intro v3 S3 e3
      refine ⟨_, _, rfl, rfl, rfl, rfl, ?_⟩
      have hd := hd.2
      generalize f_c_make a 3 0 S = Xe3 at e3 hd h
      subst e3
      refine xj_E.adv 1 (pc' := 94) (ls' := [(2, .int (S 15 a.toNatClampNeg)), (0, .ref 0), (1, .int a)]) (st' := []) (w' := (SH, S3, T)) rfl ?_
      exact xj_E.ret rfl rfl rfl rfl (h _ _ rfl)
  · have hd := hd.2 q
    have h := fun v S9 e => h v S9 (Eq.trans e (if_neg q).symm)
    refine xj_E.adv 3 (pc' := 27) (ls' := [(2, .int (S 15 a.toNatClampNeg)), (0, .ref 0), (1, .int a)]) (st' := [.int (S 15 a.toNatClampNeg), .ref 1]) (w' := (SH, S, T)) rfl ?_
    refine xj_E.calli (d := D1) (S := SH) rfl rfl rfl rfl rfl (xj_E.deep (ok_p_hasEntry (d := 0) hd.1 ?_) (by omega))
    intro w3 f3
    refine ⟨_, _, _, rfl, rfl, rfl, rfl, ?_⟩
    have hd := hd.2
    rw [← f3] at hd
    have h : ∀ v S9, (v, S9) = ((if (r_p_hasEntry S (S 15 a.toNatClampNeg)) = 0 then (if (S 2 (S 15 a.toNatClampNeg).toNatClampNeg) ≠ 2 then (if (r_p_hasFlag S (S 15 a.toNatClampNeg) 4) = 0 then (match f_c_make a 2 0 S with | (_, S4) => (0, S4)) else (match f_c_make a 1 0 S with | (_, S5) => (0, S5))) else (match f_c_make a 3 0 S with | (_, S6) => (0, S6))) else (match f_c_create (S 15 a.toNatClampNeg) (S 16 a.toNatClampNeg) 0 S with | (_, S7) => if (S7 2 (S 15 a.toNatClampNeg).toNatClampNeg) ≠ 2 then (if (r_p_hasFlag S7 (S 15 a.toNatClampNeg) 4) = 0 then (match f_c_make a 2 0 S7 with | (_, S8) => (0, S8)) else (match f_c_make a 1 0 S7 with | (_, S9) => (0, S9))) else (match f_c_make a 3 0 S7 with | (_, S10) => (0, S10)))) : Int32 × (Nat → Nat → Int32)) → P (.inl none) (SH, S9, T) 0 0 := h
    rw [← f3] at h
    refine xj_E.adv 1 (pc' := (if xj_cmp .eq w3 0 = true then 48 else 33)) (ls' := [(2, .int (S 15 a.toNatClampNeg)), (0, .ref 0), (1, .int a)]) (st' := []) (w' := (SH, S, T)) rfl ?_
    refine xj_E.b_eq (fun q => ?_) (fun q => ?_)
    · have hd := hd.1 q
      have h := fun v S9 e => h v S9 (Eq.trans e (if_pos q).symm)
      refine xj_E.adv 4 (pc' := 56) (ls' := [(2, .int (S 15 a.toNatClampNeg)), (0, .ref 0), (1, .int a)]) (st' := [.int (S 15 a.toNatClampNeg), .ref 2]) (w' := (SH, S, T)) rfl ?_
      refine xj_E.iald rfl rfl hd.1 ?_
      have hd := hd.2
      refine xj_E.adv 2 (pc' := (if xj_cmp .ne (S 2 (S 15 a.toNatClampNeg).toNatClampNeg) 2 = true then 71 else 61)) (ls' := [(2, .int (S 15 a.toNatClampNeg)), (0, .ref 0), (1, .int a)]) (st' := []) (w' := (SH, S, T)) rfl ?_
      refine xj_E.b_ne (fun q => ?_) (fun q => ?_)
      · have hd := hd.1 q
        have h := fun v S9 e => h v S9 (Eq.trans e (if_pos q).symm)
        refine xj_E.adv 6 (pc' := 79) (ls' := [(2, .int (S 15 a.toNatClampNeg)), (0, .ref 0), (1, .int a)]) (st' := [.int 4, .int (S 15 a.toNatClampNeg), .ref 1, .int a, .ref 0]) (w' := (SH, S, T)) rfl ?_
        refine xj_E.calli (d := D1) (S := SH) rfl rfl rfl rfl rfl (xj_E.deep (ok_p_hasFlag (d := 0) hd.1 ?_) (by omega))
        intro w4 f4
        refine ⟨_, _, _, rfl, rfl, rfl, rfl, ?_⟩
        have hd := hd.2
        rw [← f4] at hd
        have h : ∀ v S9, (v, S9) = ((if (r_p_hasFlag S (S 15 a.toNatClampNeg) 4) = 0 then (match f_c_make a 2 0 S with | (_, S4) => (0, S4)) else (match f_c_make a 1 0 S with | (_, S5) => (0, S5))) : Int32 × (Nat → Nat → Int32)) → P (.inl none) (SH, S9, T) 0 0 := h
        rw [← f4] at h
        refine xj_E.adv 1 (pc' := (if xj_cmp .eq w4 0 = true then 89 else 85)) (ls' := [(2, .int (S 15 a.toNatClampNeg)), (0, .ref 0), (1, .int a)]) (st' := [.int a, .ref 0]) (w' := (SH, S, T)) rfl ?_
        refine xj_E.b_eq (fun q => ?_) (fun q => ?_)
        · have hd := hd.1 q
          have h := fun v S9 e => h v S9 (Eq.trans e (if_pos q).symm)
          refine xj_E.adv 2 (pc' := 91) (ls' := [(2, .int (S 15 a.toNatClampNeg)), (0, .ref 0), (1, .int a)]) (st' := [.int 0, .int 2, .int a, .ref 0]) (w' := (SH, S, T)) rfl ?_
          refine xj_E.callv (d := D1) (S := SH) rfl rfl rfl rfl rfl (ok_c_make (by omega) hd.1 ?_)
          intro v4 S4 e4
          refine ⟨_, _, rfl, rfl, rfl, rfl, ?_⟩
          have hd := hd.2
          generalize f_c_make a 2 0 S = Xe4 at e4 hd h
          subst e4
          exact xj_E.ret rfl rfl rfl rfl (h _ _ rfl)
        · have hd := hd.2 q
          have h := fun v S9 e => h v S9 (Eq.trans e (if_neg q).symm)
          refine xj_E.adv 3 (pc' := 91) (ls' := [(2, .int (S 15 a.toNatClampNeg)), (0, .ref 0), (1, .int a)]) (st' := [.int 0, .int 1, .int a, .ref 0]) (w' := (SH, S, T)) rfl ?_
          refine xj_E.callv (d := D1) (S := SH) rfl rfl rfl rfl rfl (ok_c_make (by omega) hd.1 ?_)
          intro v5 S5 e5
          refine ⟨_, _, rfl, rfl, rfl, rfl, ?_⟩
          have hd := hd.2
          generalize f_c_make a 1 0 S = Xe5 at e5 hd h
          subst e5
          exact xj_E.ret rfl rfl rfl rfl (h _ _ rfl)
      · have hd := hd.2 q
        have h := fun v S9 e => h v S9 (Eq.trans e (if_neg q).symm)
        refine xj_E.adv 4 (pc' := 65) (ls' := [(2, .int (S 15 a.toNatClampNeg)), (0, .ref 0), (1, .int a)]) (st' := [.int 0, .int 3, .int a, .ref 0]) (w' := (SH, S, T)) rfl ?_
        refine xj_E.callv (d := D1) (S := SH) rfl rfl rfl rfl rfl (ok_c_make (by omega) hd.1 ?_)
        intro v6 S6 e6
        refine ⟨_, _, rfl, rfl, rfl, rfl, ?_⟩
        have hd := hd.2
        generalize f_c_make a 3 0 S = Xe6 at e6 hd h
        subst e6
        refine xj_E.adv 1 (pc' := 94) (ls' := [(2, .int (S 15 a.toNatClampNeg)), (0, .ref 0), (1, .int a)]) (st' := []) (w' := (SH, S6, T)) rfl ?_
        exact xj_E.ret rfl rfl rfl rfl (h _ _ rfl)
    · have hd := hd.2 q
      have h := fun v S9 e => h v S9 (Eq.trans e (if_neg q).symm)
      refine xj_E.adv 6 (pc' := 43) (ls' := [(2, .int (S 15 a.toNatClampNeg)), (0, .ref 0), (1, .int a)]) (st' := [.int a, .ref 16, .int (S 15 a.toNatClampNeg), .ref 0]) (w' := (SH, S, T)) rfl ?_
      refine xj_E.iald rfl rfl hd.1 ?_
      have hd := hd.2
      refine xj_E.adv 1 (pc' := 45) (ls' := [(2, .int (S 15 a.toNatClampNeg)), (0, .ref 0), (1, .int a)]) (st' := [.int 0, .int (S 16 a.toNatClampNeg), .int (S 15 a.toNatClampNeg), .ref 0]) (w' := (SH, S, T)) rfl ?_
      refine xj_E.callv (d := D1) (S := SH) rfl rfl rfl rfl rfl (ok_c_create (by omega) hd.1 ?_)
      intro v7 S7 e7
      refine ⟨_, _, rfl, rfl, rfl, rfl, ?_⟩
      have hd := hd.2
      generalize f_c_create (S 15 a.toNatClampNeg) (S 16 a.toNatClampNeg) 0 S = Xe7 at e7 hd h
      subst e7
      have h : ∀ v S9, (v, S9) = ((if (S7 2 (S 15 a.toNatClampNeg).toNatClampNeg) ≠ 2 then (if (r_p_hasFlag S7 (S 15 a.toNatClampNeg) 4) = 0 then (match f_c_make a 2 0 S7 with | (_, S8) => (0, S8)) else (match f_c_make a 1 0 S7 with | (_, S9) => (0, S9))) else (match f_c_make a 3 0 S7 with | (_, S10) => (0, S10))) : Int32 × (Nat → Nat → Int32)) → P (.inl none) (SH, S9, T) 0 0 := h
      refine xj_E.adv 4 (pc' := 56) (ls' := [(2, .int (S 15 a.toNatClampNeg)), (0, .ref 0), (1, .int a)]) (st' := [.int (S 15 a.toNatClampNeg), .ref 2]) (w' := (SH, S7, T)) rfl ?_
      refine xj_E.iald rfl rfl hd.1 ?_
      have hd := hd.2
      refine xj_E.adv 2 (pc' := (if xj_cmp .ne (S7 2 (S 15 a.toNatClampNeg).toNatClampNeg) 2 = true then 71 else 61)) (ls' := [(2, .int (S 15 a.toNatClampNeg)), (0, .ref 0), (1, .int a)]) (st' := []) (w' := (SH, S7, T)) rfl ?_
      refine xj_E.b_ne (fun q => ?_) (fun q => ?_)
      · have hd := hd.1 q
        have h := fun v S9 e => h v S9 (Eq.trans e (if_pos q).symm)
        refine xj_E.adv 6 (pc' := 79) (ls' := [(2, .int (S 15 a.toNatClampNeg)), (0, .ref 0), (1, .int a)]) (st' := [.int 4, .int (S 15 a.toNatClampNeg), .ref 1, .int a, .ref 0]) (w' := (SH, S7, T)) rfl ?_
        refine xj_E.calli (d := D1) (S := SH) rfl rfl rfl rfl rfl (xj_E.deep (ok_p_hasFlag (d := 0) hd.1 ?_) (by omega))
        intro w5 f5
        refine ⟨_, _, _, rfl, rfl, rfl, rfl, ?_⟩
        have hd := hd.2
        rw [← f5] at hd
        have h : ∀ v S9, (v, S9) = ((if (r_p_hasFlag S7 (S 15 a.toNatClampNeg) 4) = 0 then (match f_c_make a 2 0 S7 with | (_, S8) => (0, S8)) else (match f_c_make a 1 0 S7 with | (_, S9) => (0, S9))) : Int32 × (Nat → Nat → Int32)) → P (.inl none) (SH, S9, T) 0 0 := h
        rw [← f5] at h
        refine xj_E.adv 1 (pc' := (if xj_cmp .eq w5 0 = true then 89 else 85)) (ls' := [(2, .int (S 15 a.toNatClampNeg)), (0, .ref 0), (1, .int a)]) (st' := [.int a, .ref 0]) (w' := (SH, S7, T)) rfl ?_
        refine xj_E.b_eq (fun q => ?_) (fun q => ?_)
        · have hd := hd.1 q
          have h := fun v S9 e => h v S9 (Eq.trans e (if_pos q).symm)
          refine xj_E.adv 2 (pc' := 91) (ls' := [(2, .int (S 15 a.toNatClampNeg)), (0, .ref 0), (1, .int a)]) (st' := [.int 0, .int 2, .int a, .ref 0]) (w' := (SH, S7, T)) rfl ?_
          refine xj_E.callv (d := D1) (S := SH) rfl rfl rfl rfl rfl (ok_c_make (by omega) hd.1 ?_)
          intro v8 S8 e8
          refine ⟨_, _, rfl, rfl, rfl, rfl, ?_⟩
          have hd := hd.2
          generalize f_c_make a 2 0 S7 = Xe8 at e8 hd h
          subst e8
          exact xj_E.ret rfl rfl rfl rfl (h _ _ rfl)
        · have hd := hd.2 q
          have h := fun v S9 e => h v S9 (Eq.trans e (if_neg q).symm)
          refine xj_E.adv 3 (pc' := 91) (ls' := [(2, .int (S 15 a.toNatClampNeg)), (0, .ref 0), (1, .int a)]) (st' := [.int 0, .int 1, .int a, .ref 0]) (w' := (SH, S7, T)) rfl ?_
          refine xj_E.callv (d := D1) (S := SH) rfl rfl rfl rfl rfl (ok_c_make (by omega) hd.1 ?_)
          intro v9 S9 e9
          refine ⟨_, _, rfl, rfl, rfl, rfl, ?_⟩
          have hd := hd.2
          generalize f_c_make a 1 0 S7 = Xe9 at e9 hd h
          subst e9
          exact xj_E.ret rfl rfl rfl rfl (h _ _ rfl)
      · have hd := hd.2 q
        have h := fun v S9 e => h v S9 (Eq.trans e (if_neg q).symm)
        refine xj_E.adv 4 (pc' := 65) (ls' := [(2, .int (S 15 a.toNatClampNeg)), (0, .ref 0), (1, .int a)]) (st' := [.int 0, .int 3, .int a, .ref 0]) (w' := (SH, S7, T)) rfl ?_
        refine xj_E.callv (d := D1) (S := SH) rfl rfl rfl rfl rfl (ok_c_make (by omega) hd.1 ?_)
        intro v10 S10 e10
        refine ⟨_, _, rfl, rfl, rfl, rfl, ?_⟩
        have hd := hd.2
        generalize f_c_make a 3 0 S7 = Xe10 at e10 hd h
        subst e10
        refine xj_E.adv 1 (pc' := 94) (ls' := [(2, .int (S 15 a.toNatClampNeg)), (0, .ref 0), (1, .int a)]) (st' := []) (w' := (SH, S10, T)) rfl ?_
        exact xj_E.ret rfl rfl rfl rfl (h _ _ rfl)
