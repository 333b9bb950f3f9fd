/-! a method that stores: our machine does so -/
set_option maxHeartbeats 4000000 in
set_option maxRecDepth 100000 in
theorem ok_m_letIn {L : Nat} {xs : Nat → Int32} {T : Nat → Nat → Int64} {D : Nat} {S : (Nat → Nat → Int32)} {P : (Option Value ⊕ Nat) → xj_W → Nat → Nat → Prop} {a : Int32} (hD : 6 ≤ D) (hd : d_m_letIn a S) (h : ∀ v S9, (v, S9) = f_m_letIn a S → P (.inl none) (SH, S9, T) 0 0) : xj_E (xX L xs) D 96 0 [(0, .ref 32), (1, .int a)] [] (SH, S, T) P := by
  unfold d_m_letIn at hd
  unfold f_m_letIn at h
  obtain ⟨D1, rfl⟩ : ∃ D1, D = D1 + 1 := ⟨D - 1, by omega⟩
  refine xj_E.adv 3 (pc' := 3) (ls' := [(0, .ref 32), (1, .int a)]) (st' := [.int 1, .int a, .ref 32]) (w' := (SH, S, T)) rfl ?_
  refine xj_E.calli (d := D1) (S := SH) rfl rfl rfl rfl rfl (xj_E.deep (ok_m_hasFlag (d := 0) hd.1 ?_) (by omega))
  intro w1 f1
  refine ⟨_, _, _, rfl, rfl, rfl, rfl, ?_⟩
  have hd := hd.2
  rw [← f1] at hd
  have h : ∀ v S9, (v, S9) = ((if (r_m_hasFlag S a 1) = 0 then (if (S 32 38) = 0 then (if (r_m_kindOf S a) ≠ 2 then (if (r_m_hasFlag S a 4) = 0 then (match f_m_make a 2 S with | (_, S1) => (0, S1)) else (match f_m_make a 1 S with | (_, S2) => (0, S2))) else (match f_m_make a 3 S with | (_, S3) => (0, S3))) else ((0, S))) else (if (r_m_hasEntry S a) = 0 then (if (S 32 38) = 0 then (if (r_m_kindOf S a) ≠ 2 then (if (r_m_hasFlag S a 4) = 0 then (match f_m_make a 2 S with | (_, S4) => (0, S4)) else (match f_m_make a 1 S with | (_, S5) => (0, S5))) else (match f_m_make a 3 S with | (_, S6) => (0, S6))) else ((0, S))) else (match f_m_create (S 45 a.toNatClampNeg) (S 46 a.toNatClampNeg) S with | (_, S7) => if (S7 32 38) = 0 then (if (r_m_kindOf S7 a) ≠ 2 then (if (r_m_hasFlag S7 a 4) = 0 then (match f_m_make a 2 S7 with | (_, S8) => (0, S8)) else (match f_m_make a 1 S7 with | (_, S9) => (0, S9))) else (match f_m_make a 3 S7 with | (_, S10) => (0, S10))) else ((0, S7))))) : Int32 × (Nat → Nat → Int32)) → P (.inl none) (SH, S9, T) 0 0 := h
  rw [← f1] at h
  refine xj_E.adv 1 (pc' := (if xj_cmp .eq w1 0 = true then 33 else 9)) (ls' := [(0, .ref 32), (1, .int a)]) (st' := []) (w' := (SH, S, T)) rfl ?_
  refine xj_E.b_eq (fun q => ?_) (fun q => ?_)
  · have hd := hd.1 q
    have h := fun v S9 e => h v S9 (Eq.trans e (if_pos q).symm)
    refine xj_E.adv 3 (pc' := (if xj_cmp .eq (S 32 38) 0 = true then 41 else 40)) (ls' := [(0, .ref 32), (1, .int a)]) (st' := []) (w' := (SH, S, T)) rfl ?_
    refine xj_E.b_eq (fun q => ?_) (fun q => ?_)
    · have hd := hd.1 q
      have h := fun v S9 e => h v S9 (Eq.trans e (if_pos q).symm)
      refine xj_E.adv 2 (pc' := 43) (ls' := [(0, .ref 32), (1, .int a)]) (st' := [.int a, .ref 32]) (w' := (SH, S, T)) rfl ?_
      refine xj_E.calli (d := D1) (S := SH) rfl rfl rfl rfl rfl (xj_E.deep (ok_m_kindOf (d := 0) hd.1 ?_) (by omega))
      intro w2 f2
      refine ⟨_, _, _, rfl, rfl, rfl, rfl, ?_⟩
      have hd := hd.2
      rw [← f2] at hd
      have h : ∀ v S9, (v, S9) = ((if (r_m_kindOf S a) ≠ 2 then (if (r_m_hasFlag S a 4) = 0 then (match f_m_make a 2 S with | (_, S1) => (0, S1)) else (match f_m_make a 1 S with | (_, S2) => (0, S2))) else (match f_m_make a 3 S with | (_, S3) => (0, S3))) : Int32 × (Nat → Nat → Int32)) → P (.inl none) (SH, S9, T) 0 0 := h
      rw [← f2] at h
      refine xj_E.adv 2 (pc' := (if xj_cmp .ne w2 2 = true then 59 else 50)) (ls' := [(0, .ref 32), (1, .int a)]) (st' := []) (w' := (SH, S, T)) rfl ?_
      refine xj_E.b_ne (fun q => ?_) (fun q => ?_)
      · have hd := hd.1 q
        have h := fun v S9 e => h v S9 (Eq.trans e (if_pos q).symm)
        refine xj_E.adv 5 (pc' := 64) (ls' := [(0, .ref 32), (1, .int a)]) (st' := [.int 4, .int a, .ref 32, .int a, .ref 32]) (w' := (SH, S, T)) rfl ?_
        refine xj_E.calli (d := D1) (S := SH) rfl rfl rfl rfl rfl (xj_E.deep (ok_m_hasFlag (d := 0) hd.1 ?_) (by omega))
        intro w3 f3
        refine ⟨_, _, _, rfl, rfl, rfl, rfl, ?_⟩
        have hd := hd.2
        rw [← f3] at hd
        have h : ∀ v S9, (v, S9) = ((if (r_m_hasFlag S a 4) = 0 then (match f_m_make a 2 S with | (_, S1) => (0, S1)) else (match f_m_make a 1 S with | (_, S2) => (0, S2))) : Int32 × (Nat → Nat → Int32)) → P (.inl none) (SH, S9, T) 0 0 := h
        rw [← f3] at h
        refine xj_E.adv 1 (pc' := (if xj_cmp .eq w3 0 = true then 74 else 70)) (ls' := [(0, .ref 32), (1, .int a)]) (st' := [.int a, .ref 32]) (w' := (SH, S, T)) rfl ?_
        refine xj_E.b_eq (fun q => ?_) (fun q => ?_)
        · have hd := hd.1 q
          have h := fun v S9 e => h v S9 (Eq.trans e (if_pos q).symm)
          refine xj_E.adv 1 (pc' := 75) (ls' := [(0, .ref 32), (1, .int a)]) (st' := [.int 2, .int a, .ref 32]) (w' := (SH, S, T)) rfl ?_
          refine xj_E.callv (d := D1) (S := SH) rfl rfl rfl rfl rfl (ok_m_make (by omega) hd.1 ?_)
          intro v1 S1 e1
          refine ⟨_, _, rfl, rfl, rfl, rfl, ?_⟩
          have hd := hd.2
          generalize f_m_make a 2 S = Xe1 at e1 hd h
          subst e1
          exact xj_E.ret rfl rfl rfl rfl (h _ _ rfl)
        · have hd := hd.2 q
          have h := fun v S9 e => h v S9 (Eq.trans e (if_neg q).symm)
          refine xj_E.adv 2 (pc' := 75) (ls' := [(0, .ref 32), (1, .int a)]) (st' := [.int 1, .int a, .ref 32]) (w' := (SH, S, T)) rfl ?_
          refine xj_E.callv (d := D1) (S := SH) rfl rfl rfl rfl rfl (ok_m_make (by omega) hd.1 ?_)
          intro v2 S2 e2
          refine ⟨_, _, rfl, rfl, rfl, rfl, ?_⟩
          have hd := hd.2
          generalize f_m_make a 1 S = Xe2 at e2 hd h
          subst e2
          exact xj_E.ret rfl rfl rfl rfl (h _ _ rfl)
      · have hd := hd.2 q
        have h := fun v S9 e => h v S9 (Eq.trans e (if_neg q).symm)
        refine xj_E.adv 3 (pc' := 53) (ls' := [(0, .ref 32), (1, .int a)]) (st' := [.int 3, .int a, .ref 32]) (w' := (SH, S, T)) rfl ?_
        refine xj_E.callv (d := D1) (S := SH) rfl rfl rfl rfl rfl (ok_m_make (by omega) hd.1 ?_)
        intro v3 S3 e3
        refine ⟨_, _, rfl, rfl, rfl, rfl, ?_⟩
        have hd := hd.2
        generalize f_m_make a 3 S = Xe3 at e3 hd h
        subst e3
        refine xj_E.adv 1 (pc' := 78) (ls' := [(0, .ref 32), (1, .int a)]) (st' := []) (w' := (SH, S3, T)) rfl ?_
        exact xj_E.ret rfl rfl rfl rfl (h _ _ rfl)
    · have hd := hd.2 q
      have h := fun v S9 e => h v S9 (Eq.trans e (if_neg q).symm)
      exact xj_E.ret rfl rfl rfl rfl (h _ _ rfl)
  · have hd := hd.2 q
    have h := fun v S9 e => h v S9 (Eq.trans e (if_neg q).symm)
    refine xj_E.adv 2 (pc' := 11) (ls' := [(0, .ref 32), (1, .int a)]) (st' := [.int a, .ref 32]) (w' := (SH, S, T)) rfl ?_
    refine xj_E.calli (d := D1) (S := SH) rfl rfl rfl rfl rfl (xj_E.deep (ok_m_hasEntry (d := 0) hd.1 ?_) (by omega))
    intro w4 f4
    refine ⟨_, _, _, rfl, rfl, rfl, rfl, ?_⟩
    have hd := hd.2
    rw [← f4] at hd
    have h : ∀ v S9, (v, S9) = ((if (r_m_hasEntry S a) = 0 then (if (S 32 38) = 0 then (if (r_m_kindOf S a) ≠ 2 then (if (r_m_hasFlag S a 4) = 0 then (match f_m_make a 2 S with | (_, S4) => (0, S4)) else (match f_m_make a 1 S with | (_, S5) => (0, S5))) else (match f_m_make a 3 S with | (_, S6) => (0, S6))) else ((0, S))) else (match f_m_create (S 45 a.toNatClampNeg) (S 46 a.toNatClampNeg) S with | (_, S7) => if (S7 32 38) = 0 then (if (r_m_kindOf S7 a) ≠ 2 then (if (r_m_hasFlag S7 a 4) = 0 then (match f_m_make a 2 S7 with | (_, S8) => (0, S8)) else (match f_m_make a 1 S7 with | (_, S9) => (0, S9))) else (match f_m_make a 3 S7 with | (_, S10) => (0, S10))) else ((0, S7)))) : Int32 × (Nat → Nat → Int32)) → P (.inl none) (SH, S9, T) 0 0 := h
    rw [← f4] at h
    refine xj_E.adv 1 (pc' := (if xj_cmp .eq w4 0 = true then 33 else 17)) (ls' := [(0, .ref 32), (1, .int a)]) (st' := []) (w' := (SH, S, T)) rfl ?_
    refine xj_E.b_eq (fun q => ?_) (fun q => ?_)
    · have hd := hd.1 q
      have h := fun v S9 e => h v S9 (Eq.trans e (if_pos q).symm)
      refine xj_E.adv 3 (pc' := (if xj_cmp .eq (S 32 38) 0 = true then 41 else 40)) (ls' := [(0, .ref 32), (1, .int a)]) (st' := []) (w' := (SH, S, T)) rfl ?_
      refine xj_E.b_eq (fun q => ?_) (fun q => ?_)
      · have hd := hd.1 q
        have h := fun v S9 e => h v S9 (Eq.trans e (if_pos q).symm)
        refine xj_E.adv 2 (pc' := 43) (ls' := [(0, .ref 32), (1, .int a)]) (st' := [.int a, .ref 32]) (w' := (SH, S, T)) rfl ?_
        refine xj_E.calli (d := D1) (S := SH) rfl rfl rfl rfl rfl (xj_E.deep (ok_m_kindOf (d := 0) hd.1 ?_) (by omega))
        intro w5 f5
        refine ⟨_, _, _, rfl, rfl, rfl, rfl, ?_⟩
        have hd := hd.2
        rw [← f5] at hd
        have h : ∀ v S9, (v, S9) = ((if (r_m_kindOf S a) ≠ 2 then (if (r_m_hasFlag S a 4) = 0 then (match f_m_make a 2 S with | (_, S4) => (0, S4)) else (match f_m_make a 1 S with | (_, S5) => (0, S5))) else (match f_m_make a 3 S with | (_, S6) => (0, S6))) : Int32 × (Nat → Nat → Int32)) → P (.inl none) (SH, S9, T) 0 0 := h
        rw [← f5] at h
        refine xj_E.adv 2 (pc' := (if xj_cmp .ne w5 2 = true then 59 else 50)) (ls' := [(0, .ref 32), (1, .int a)]) (st' := []) (w' := (SH, S, T)) rfl ?_
        refine xj_E.b_ne (fun q => ?_) (fun q => ?_)
        · have hd := hd.1 q
          have h := fun v S9 e => h v S9 (Eq.trans e (if_pos q).symm)
          refine xj_E.adv 5 (pc' := 64) (ls' := [(0, .ref 32), (1, .int a)]) (st' := [.int 4, .int a, .ref 32, .int a, .ref 32]) (w' := (SH, S, T)) rfl ?_
          refine xj_E.calli (d := D1) (S := SH) rfl rfl rfl rfl rfl (xj_E.deep (ok_m_hasFlag (d := 0) hd.1 ?_) (by omega))
          intro w6 f6
          refine ⟨_, _, _, rfl, rfl, rfl, rfl, ?_⟩
          have hd := hd.2
          rw [← f6] at hd
          have h : ∀ v S9, (v, S9) = ((if (r_m_hasFlag S a 4) = 0 then (match f_m_make a 2 S with | (_, S4) => (0, S4)) else (match f_m_make a 1 S with | (_, S5) => (0, S5))) : Int32 × (Nat → Nat → Int32)) → P (.inl none) (SH, S9, T) 0 0 := h
          rw [← f6] at h
          refine xj_E.adv 1 (pc' := (if xj_cmp .eq w6 0 = true then 74 else 70)) (ls' := [(0, .ref 32), (1, .int a)]) (st' := [.int a, .ref 32]) (w' := (SH, S, T)) rfl ?_
          refine xj_E.b_eq (fun q => ?_) (fun q => ?_)
          · have hd := hd.1 q
            have h := fun v S9 e => h v S9 (Eq.trans e (if_pos q).symm)
            refine xj_E.adv 1 (pc' := 75) (ls' := [(0, .ref 32), (1, .int a)]) (st' := [.int 2, .int a, .ref 32]) (w' := (SH, S, T)) rfl ?_
            refine xj_E.callv (d := D1) (S := SH) rfl rfl rfl rfl rfl (ok_m_make (by omega) hd.1 ?_)
            intro v4 S4 e4
            refine ⟨_, _, rfl, rfl, rfl, rfl, ?_⟩
            have hd := hd.2
            generalize f_m_make a 2 S = Xe4 at e4 hd h
            subst e4
            exact xj_E.ret rfl rfl rfl rfl (h _ _ rfl)
          · have hd := hd.2 q
            have h := fun v S9 e => h v S9 (Eq.trans e (if_neg q).symm)
            refine xj_E.adv 2 (pc' := 75) (ls' := [(0, .ref 32), (1, .int a)]) (st' := [.int 1, .int a, .ref 32]) (w' := (SH, S, T)) rfl ?_
            refine xj_E.callv (d := D1) (S := SH) rfl rfl rfl rfl rfl (ok_m_make (by omega) hd.1 ?_)
            intro v5 S5 e5
            refine ⟨_, _, rfl, rfl, rfl, rfl, ?_⟩
            have hd := hd.2
            generalize f_m_make a 1 S = Xe5 at e5 hd h
            subst e5
            exact xj_E.ret rfl rfl rfl rfl (h _ _ rfl)
        · have hd := hd.2 q
          have h := fun v S9 e => h v S9 (Eq.trans e (if_neg q).symm)
          refine xj_E.adv 3 (pc' := 53) (ls' := [(0, .ref 32), (1, .int a)]) (st' := [.int 3, .int a, .ref 32]) (w' := (SH, S, T)) rfl ?_
          refine xj_E.callv (d := D1) (S := SH) rfl rfl rfl rfl rfl (ok_m_make (by omega) hd.1 ?_)
          intro v6 S6 e6
          refine ⟨_, _, rfl, rfl, rfl, rfl, ?_⟩
          have hd := hd.2
          generalize f_m_make a 3 S = Xe6 at e6 hd h
          subst e6
          refine xj_E.adv 1 (pc' := 78) (ls' := [(0, .ref 32), (1, .int a)]) (st' := []) (w' := (SH, S6, T)) rfl ?_
          exact xj_E.ret rfl rfl rfl rfl (h _ _ rfl)
      · have hd := hd.2 q
        have h := fun v S9 e => h v S9 (Eq.trans e (if_neg q).symm)
        exact xj_E.ret rfl rfl rfl rfl (h _ _ rfl)
    · have hd := hd.2 q
      have h := fun v S9 e => h v S9 (Eq.trans e (if_neg q).symm)
      refine xj_E.adv 4 (pc' := 23) (ls' := [(0, .ref 32), (1, .int a)]) (st' := [.int a, .ref 45, .ref 32]) (w' := (SH, S, T)) rfl ?_
      refine xj_E.iald rfl rfl hd.1 ?_
      have hd := hd.2
      refine xj_E.adv 3 (pc' := 29) (ls' := [(0, .ref 32), (1, .int a)]) (st' := [.int a, .ref 46, .int (S 45 a.toNatClampNeg), .ref 32]) (w' := (SH, S, T)) rfl ?_
      refine xj_E.iald rfl rfl hd.1 ?_
      have hd := hd.2
      refine xj_E.callv (d := D1) (S := SH) rfl rfl rfl rfl rfl (ok_m_create (by omega) hd.1 ?_)
      intro v7 S7 e7
      refine ⟨_, _, rfl, rfl, rfl, rfl, ?_⟩
      have hd := hd.2
      generalize f_m_create (S 45 a.toNatClampNeg) (S 46 a.toNatClampNeg) S = Xe7 at e7 hd h
      subst e7
      have h : ∀ v S9, (v, S9) = ((if (S7 32 38) = 0 then (if (r_m_kindOf S7 a) ≠ 2 then (if (r_m_hasFlag S7 a 4) = 0 then (match f_m_make a 2 S7 with | (_, S8) => (0, S8)) else (match f_m_make a 1 S7 with | (_, S9) => (0, S9))) else (match f_m_make a 3 S7 with | (_, S10) => (0, S10))) else ((0, S7))) : Int32 × (Nat → Nat → Int32)) → P (.inl none) (SH, S9, T) 0 0 := h
      refine xj_E.adv 3 (pc' := (if xj_cmp .eq (S7 32 38) 0 = true then 41 else 40)) (ls' := [(0, .ref 32), (1, .int a)]) (st' := []) (w' := (SH, S7, T)) rfl ?_
      refine xj_E.b_eq (fun q => ?_) (fun q => ?_)
      · have hd := hd.1 q
        have h := fun v S9 e => h v S9 (Eq.trans e (if_pos q).symm)
        refine xj_E.adv 2 (pc' := 43) (ls' := [(0, .ref 32), (1, .int a)]) (st' := [.int a, .ref 32]) (w' := (SH, S7, T)) rfl ?_
        refine xj_E.calli (d := D1) (S := SH) rfl rfl rfl rfl rfl (xj_E.deep (ok_m_kindOf (d := 0) hd.1 ?_) (by omega))
        intro w7 f7
        refine ⟨_, _, _, rfl, rfl, rfl, rfl, ?_⟩
        have hd := hd.2
        rw [← f7] at hd
        have h : ∀ v S9, (v, S9) = ((if (r_m_kindOf S7 a) ≠ 2 then (if (r_m_hasFlag S7 a 4) = 0 then (match f_m_make a 2 S7 with | (_, S8) => (0, S8)) else (match f_m_make a 1 S7 with | (_, S9) => (0, S9))) else (match f_m_make a 3 S7 with | (_, S10) => (0, S10))) : Int32 × (Nat → Nat → Int32)) → P (.inl none) (SH, S9, T) 0 0 := h
        rw [← f7] at h
        refine xj_E.adv 2 (pc' := (if xj_cmp .ne w7 2 = true then 59 else 50)) (ls' := [(0, .ref 32), (1, .int a)]) (st' := []) (w' := (SH, S7, T)) rfl ?_
        refine xj_E.b_ne (fun q => ?_) (fun q => ?_)
        · have hd := hd.1 q
          have h := fun v S9 e => h v S9 (Eq.trans e (if_pos q).symm)
          refine xj_E.adv 5 (pc' := 64) (ls' := [(0, .ref 32), (1, .int a)]) (st' := [.int 4, .int a, .ref 32, .int a, .ref 32]) (w' := (SH, S7, T)) rfl ?_
          refine xj_E.calli (d := D1) (S := SH) rfl rfl rfl rfl rfl (xj_E.deep (ok_m_hasFlag (d := 0) hd.1 ?_) (by omega))
          intro w8 f8
          refine ⟨_, _, _, rfl, rfl, rfl, rfl, ?_⟩
          have hd := hd.2
          rw [← f8] at hd
          have h : ∀ v S9, (v, S9) = ((if (r_m_hasFlag S7 a 4) = 0 then (match f_m_make a 2 S7 with | (_, S8) => (0, S8)) else (match f_m_make a 1 S7 with | (_, S9) => (0, S9))) : Int32 × (Nat → Nat → Int32)) → P (.inl none) (SH, S9, T) 0 0 := h
          rw [← f8] at h
          refine xj_E.adv 1 (pc' := (if xj_cmp .eq w8 0 = true then 74 else 70)) (ls' := [(0, .ref 32), (1, .int a)]) (st' := [.int a, .ref 32]) (w' := (SH, S7, T)) rfl ?_
          refine xj_E.b_eq (fun q => ?_) (fun q => ?_)
          · have hd := hd.1 q
            have h := fun v S9 e => h v S9 (Eq.trans e (if_pos q).symm)
            refine xj_E.adv 1 (pc' := 75) (ls' := [(0, .ref 32), (1, .int a)]) (st' := [.int 2, .int a, .ref 32]) (w' := (SH, S7, T)) rfl ?_
            refine xj_E.callv (d := D1) (S := SH) rfl rfl rfl rfl rfl (ok_m_make (by omega) hd.1 ?_)
            intro v8 S8 e8
            refine ⟨_, _, rfl, rfl, rfl, rfl, ?_⟩
            have hd := hd.2
            generalize f_m_make a 2 S7 = Xe8 at e8 hd h
            subst e8
            exact xj_E.ret rfl rfl rfl rfl (h _ _ rfl)
          · have hd := hd.2 q
            have h := fun v S9 e => h v S9 (Eq.trans e (if_neg q).symm)
            refine xj_E.adv 2 (pc' := 75) (ls' := [(0, .ref 32), (1, .int a)]) (st' := [.int 1, .int a, .ref 32]) (w' := (SH, S7, T)) rfl ?_
            refine xj_E.callv (d := D1) (S := SH) rfl rfl rfl rfl rfl (ok_m_make (by omega) hd.1 ?_)
            intro v9 S9 e9
            refine ⟨_, _, rfl, rfl, rfl, rfl, ?_⟩
            have hd := hd.2
            generalize f_m_make a 1 S7 = Xe9 at e9 hd h
            subst e9
            exact xj_E.ret rfl rfl rfl rfl (h _ _ rfl)
        · have hd := hd.2 q
          have h := fun v S9 e => h v S9 (Eq.trans e (if_neg q).symm)
          refine xj_E.adv 3 (pc' := 53) (ls' := [(0, .ref 32), (1, .int a)]) (st' := [.int 3, .int a, .ref 32]) (w' := (SH, S7, T)) rfl ?_
          refine xj_E.callv (d := D1) (S := SH) rfl rfl rfl rfl rfl (ok_m_make (by omega) hd.1 ?_)
          intro v10 S10 e10
          refine ⟨_, _, rfl, rfl, rfl, rfl, ?_⟩
          have hd := hd.2
          generalize f_m_make a 3 S7 = Xe10 at e10 hd h
          subst e10
          refine xj_E.adv 1 (pc' := 78) (ls' := [(0, .ref 32), (1, .int a)]) (st' := []) (w' := (SH, S10, T)) rfl ?_
          exact xj_E.ret rfl rfl rfl rfl (h _ _ rfl)
      · have hd := hd.2 q
        have h := fun v S9 e => h v S9 (Eq.trans e (if_neg q).symm)
        exact xj_E.ret rfl rfl rfl rfl (h _ _ rfl)
