/-! a method that stores: our machine does so -/
set_option maxHeartbeats 4000000 in
set_option maxRecDepth 100000 in
theorem ok_m_on {L : Nat} {xs : Nat → Int32} {T : Nat → Nat → Int64} {D : Nat} {S : (Nat → Nat → Int32)} {P : (Option Value ⊕ Nat) → xj_W → Nat → Nat → Prop} {a b c : Int32} (hD : 1 ≤ D) (hd : d_m_on a b c S) (h : ∀ v S9, (v, S9) = f_m_on a b c S → P (.inl (some (.int v))) (SH, S9, T) 0 0) : xj_E (xX L xs) D 74 0 [(0, .ref 32), (1, .int a), (2, .int b), (3, .int c)] [] (SH, S, T) P := by
  unfold d_m_on at hd
  unfold f_m_on at h
  obtain ⟨D1, rfl⟩ : ∃ D1, D = D1 + 1 := ⟨D - 1, by omega⟩
  refine xj_E.adv 6 (pc' := (if xj_cmp .ne (S 32 15) 0 = true then 30 else 12)) (ls' := [(0, .ref 32), (1, .int a), (2, .int b), (3, .int c)]) (st' := []) (w' := (SH, (xj_set S 32 0 0), T)) rfl ?_
  refine xj_E.b_ne (fun q => ?_) (fun q => ?_)
  · have hd := hd.1 q
    have h := fun v S9 e => h v S9 (Eq.trans e (if_pos q).symm)
    refine xj_E.adv 2 (pc' := 32) (ls' := [(0, .ref 32), (1, .int a), (2, .int b), (3, .int c)]) (st' := [.int 1, .ref 32]) (w' := (SH, (xj_set S 32 0 0), T)) rfl ?_
    refine xj_E.calli (d := D1) (S := SH) rfl rfl rfl rfl rfl (ok_m_fail (by omega) hd.1 ?_)
    intro v1 S1 e1
    refine ⟨_, _, _, rfl, rfl, rfl, rfl, ?_⟩
    have hd := hd.2
    generalize f_m_fail 1 (xj_set S 32 0 0) = Xe1 at e1 hd h
    subst e1
    exact xj_E.ret rfl rfl rfl rfl (h _ _ rfl)
  · have hd := hd.2 q
    have h := fun v S9 e => h v S9 (Eq.trans e (if_neg q).symm)
    refine xj_E.adv 2 (pc' := 14) (ls' := [(0, .ref 32), (1, .int a), (2, .int b), (3, .int c)]) (st' := [.int a, .ref 32]) (w' := (SH, (xj_set S 32 0 0), T)) rfl ?_
    refine xj_E.calli (d := D1) (S := SH) rfl rfl rfl rfl rfl (xj_E.deep (ok_m_isSentry (d := 0) hd.1 ?_) (by omega))
    intro w1 f1
    refine ⟨_, _, _, rfl, rfl, rfl, rfl, ?_⟩
    have hd := hd.2
    rw [← f1] at hd
    have h : ∀ v S9, (v, S9) = ((if (r_m_isSentry (xj_set S 32 0 0) a) = 0 then (if (r_m_isSentry (xj_set S 32 0 0) a) ≠ 0 then (if b < 0 then (if (r_m_within (xj_set S 32 0 0) (b - 100) 3) ≠ 0 then (((xj_set (xj_set (xj_set (xj_set S 32 0 0) 39 ((2 * a) + (S 38 a.toNatClampNeg)).toNatClampNeg b) 40 ((2 * a) + (S 38 a.toNatClampNeg)).toNatClampNeg c) 38 a.toNatClampNeg ((S 38 a.toNatClampNeg) + 1)) 38 a.toNatClampNeg, (xj_set (xj_set (xj_set (xj_set S 32 0 0) 39 ((2 * a) + (S 38 a.toNatClampNeg)).toNatClampNeg b) 40 ((2 * a) + (S 38 a.toNatClampNeg)).toNatClampNeg c) 38 a.toNatClampNeg ((S 38 a.toNatClampNeg) + 1)))) else (match f_m_fail 2 (xj_set S 32 0 0) with | (v2, S2) => (v2, S2))) else (if (S 32 1) ≤ b then (if (r_m_within (xj_set S 32 0 0) (b - 100) 3) ≠ 0 then (((xj_set (xj_set (xj_set (xj_set S 32 0 0) 39 ((2 * a) + (S 38 a.toNatClampNeg)).toNatClampNeg b) 40 ((2 * a) + (S 38 a.toNatClampNeg)).toNatClampNeg c) 38 a.toNatClampNeg ((S 38 a.toNatClampNeg) + 1)) 38 a.toNatClampNeg, (xj_set (xj_set (xj_set (xj_set S 32 0 0) 39 ((2 * a) + (S 38 a.toNatClampNeg)).toNatClampNeg b) 40 ((2 * a) + (S 38 a.toNatClampNeg)).toNatClampNeg c) 38 a.toNatClampNeg ((S 38 a.toNatClampNeg) + 1)))) else (match f_m_fail 2 (xj_set S 32 0 0) with | (v3, S3) => (v3, S3))) else (if b = (S 36 a.toNatClampNeg) then (match f_m_fail 2 (xj_set S 32 0 0) with | (v4, S4) => (v4, S4)) else (if (S 34 b.toNatClampNeg) ≠ (S 34 (S 36 a.toNatClampNeg).toNatClampNeg) then (match f_m_fail 2 (xj_set S 32 0 0) with | (v5, S5) => (v5, S5)) else (if (r_m_within (xj_set S 32 0 0) c 9) ≠ 0 then (((xj_set (xj_set (xj_set (xj_set S 32 0 0) 39 ((2 * a) + (S 38 a.toNatClampNeg)).toNatClampNeg b) 40 ((2 * a) + (S 38 a.toNatClampNeg)).toNatClampNeg c) 38 a.toNatClampNeg ((S 38 a.toNatClampNeg) + 1)) 38 a.toNatClampNeg, (xj_set (xj_set (xj_set (xj_set S 32 0 0) 39 ((2 * a) + (S 38 a.toNatClampNeg)).toNatClampNeg b) 40 ((2 * a) + (S 38 a.toNatClampNeg)).toNatClampNeg c) 38 a.toNatClampNeg ((S 38 a.toNatClampNeg) + 1)))) else (match f_m_fail 2 (xj_set S 32 0 0) with | (v6, S6) => (v6, S6))))))) else (match f_m_fail 2 (xj_set S 32 0 0) with | (v7, S7) => (v7, S7))) else (if (S 38 a.toNatClampNeg) ≠ 2 then (if (r_m_isSentry (xj_set S 32 0 0) a) ≠ 0 then (if b < 0 then (if (r_m_within (xj_set S 32 0 0) (b - 100) 3) ≠ 0 then (((xj_set (xj_set (xj_set (xj_set S 32 0 0) 39 ((2 * a) + (S 38 a.toNatClampNeg)).toNatClampNeg b) 40 ((2 * a) + (S 38 a.toNatClampNeg)).toNatClampNeg c) 38 a.toNatClampNeg ((S 38 a.toNatClampNeg) + 1)) 38 a.toNatClampNeg, (xj_set (xj_set (xj_set (xj_set S 32 0 0) 39 ((2 * a) + (S 38 a.toNatClampNeg)).toNatClampNeg b) 40 ((2 * a) + (S 38 a.toNatClampNeg)).toNatClampNeg c) 38 a.toNatClampNeg ((S 38 a.toNatClampNeg) + 1)))) else (match f_m_fail 2 (xj_set S 32 0 0) with | (v8, S8) => (v8, S8))) else (if (S 32 1) ≤ b then (if (r_m_within (xj_set S 32 0 0) (b - 100) 3) ≠ 0 then (((xj_set (xj_set (xj_set (xj_set S 32 0 0) 39 ((2 * a) + (S 38 a.toNatClampNeg)).toNatClampNeg b) 40 ((2 * a) + (S 38 a.toNatClampNeg)).toNatClampNeg c) 38 a.toNatClampNeg ((S 38 a.toNatClampNeg) + 1)) 38 a.toNatClampNeg, (xj_set (xj_set (xj_set (xj_set S 32 0 0) 39 ((2 * a) + (S 38 a.toNatClampNeg)).toNatClampNeg b) 40 ((2 * a) + (S 38 a.toNatClampNeg)).toNatClampNeg c) 38 a.toNatClampNeg ((S 38 a.toNatClampNeg) + 1)))) else (match f_m_fail 2 (xj_set S 32 0 0) with | (v9, S9) => (v9, S9))) else (if b = (S 36 a.toNatClampNeg) then (match f_m_fail 2 (xj_set S 32 0 0) with | (v10, S10) => (v10, S10)) else (if (S 34 b.toNatClampNeg) ≠ (S 34 (S 36 a.toNatClampNeg).toNatClampNeg) then (match f_m_fail 2 (xj_set S 32 0 0) with | (v11, S11) => (v11, S11)) else (if (r_m_within (xj_set S 32 0 0) c 9) ≠ 0 then (((xj_set (xj_set (xj_set (xj_set S 32 0 0) 39 ((2 * a) + (S 38 a.toNatClampNeg)).toNatClampNeg b) 40 ((2 * a) + (S 38 a.toNatClampNeg)).toNatClampNeg c) 38 a.toNatClampNeg ((S 38 a.toNatClampNeg) + 1)) 38 a.toNatClampNeg, (xj_set (xj_set (xj_set (xj_set S 32 0 0) 39 ((2 * a) + (S 38 a.toNatClampNeg)).toNatClampNeg b) 40 ((2 * a) + (S 38 a.toNatClampNeg)).toNatClampNeg c) 38 a.toNatClampNeg ((S 38 a.toNatClampNeg) + 1)))) else (match f_m_fail 2 (xj_set S 32 0 0) with | (v12, S12) => (v12, S12))))))) else (match f_m_fail 2 (xj_set S 32 0 0) with | (v13, S13) => (v13, S13))) else (match f_m_fail 1 (xj_set S 32 0 0) with | (v14, S14) => (v14, S14)))) : Int32 × (Nat → Nat → Int32)) → P (.inl (some (.int v))) (SH, S9, T) 0 0 := h
    rw [← f1] at h
    refine xj_E.adv 1 (pc' := (if xj_cmp .eq w1 0 = true then 36 else 20)) (ls' := [(0, .ref 32), (1, .int a), (2, .int b), (3, .int c)]) (st' := []) (w' := (SH, (xj_set S 32 0 0), T)) rfl ?_
    refine xj_E.b_eq (fun q => ?_) (fun q => ?_)
    · have hd := hd.1 q
      have h := fun v S9 e => h v S9 (Eq.trans e (if_pos q).symm)
      refine xj_E.adv 2 (pc' := 38) (ls' := [(0, .ref 32), (1, .int a), (2, .int b), (3, .int c)]) (st' := [.int a, .ref 32]) (w' := (SH, (xj_set S 32 0 0), T)) rfl ?_
      refine xj_E.calli (d := D1) (S := SH) rfl rfl rfl rfl rfl (xj_E.deep (ok_m_isSentry (d := 0) hd.1 ?_) (by omega))
      intro w2 f2
      have f2 := f1.trans f2.symm
      subst f2
      refine ⟨_, _, _, rfl, rfl, rfl, rfl, ?_⟩
      have hd := hd.2
      refine xj_E.adv 1 (pc' := (if xj_cmp .ne w1 0 = true then 50 else 44)) (ls' := [(0, .ref 32), (1, .int a), (2, .int b), (3, .int c)]) (st' := []) (w' := (SH, (xj_set S 32 0 0), T)) rfl ?_
      refine xj_E.b_ne (fun q => ?_) (fun q => ?_)
      · have hd := hd.1 q
        have h := fun v S9 e => h v S9 (Eq.trans e (if_pos q).symm)
        refine xj_E.adv 2 (pc' := (if xj_cmp .lt b 0 = true then 66 else 54)) (ls' := [(0, .ref 32), (1, .int a), (2, .int b), (3, .int c)]) (st' := []) (w' := (SH, (xj_set S 32 0 0), T)) rfl ?_
        refine xj_E.b_lt (fun q => ?_) (fun q => ?_)
        · have hd := hd.1 q
          have h := fun v S9 e => h v S9 (Eq.trans e (if_pos q).symm)
          refine xj_E.adv 8 (pc' := 79) (ls' := [(4, .int 0), (0, .ref 32), (1, .int a), (2, .int b), (3, .int c)]) (st' := [.int 3, .int (b - 100)]) (w' := (SH, (xj_set S 32 0 0), T)) rfl ?_
          refine xj_E.calli (d := D1) (S := SH) rfl rfl rfl rfl rfl (xj_E.deep (ok_m_within (d := 0) hd.1 ?_) (by omega))
          intro w3 f3
          refine ⟨_, _, _, rfl, rfl, rfl, rfl, ?_⟩
          have hd := hd.2
          rw [← f3] at hd
          have h : ∀ v S9, (v, S9) = ((if (r_m_within (xj_set S 32 0 0) (b - 100) 3) ≠ 0 then (((xj_set (xj_set (xj_set (xj_set S 32 0 0) 39 ((2 * a) + (S 38 a.toNatClampNeg)).toNatClampNeg b) 40 ((2 * a) + (S 38 a.toNatClampNeg)).toNatClampNeg c) 38 a.toNatClampNeg ((S 38 a.toNatClampNeg) + 1)) 38 a.toNatClampNeg, (xj_set (xj_set (xj_set (xj_set S 32 0 0) 39 ((2 * a) + (S 38 a.toNatClampNeg)).toNatClampNeg b) 40 ((2 * a) + (S 38 a.toNatClampNeg)).toNatClampNeg c) 38 a.toNatClampNeg ((S 38 a.toNatClampNeg) + 1)))) else (match f_m_fail 2 (xj_set S 32 0 0) with | (v2, S2) => (v2, S2))) : Int32 × (Nat → Nat → Int32)) → P (.inl (some (.int v))) (SH, S9, T) 0 0 := h
          rw [← f3] at h
          refine xj_E.adv 1 (pc' := (if xj_cmp .ne w3 0 = true then 91 else 85)) (ls' := [(4, .int 0), (0, .ref 32), (1, .int a), (2, .int b), (3, .int c)]) (st' := []) (w' := (SH, (xj_set S 32 0 0), T)) rfl ?_
          refine xj_E.b_ne (fun q => ?_) (fun q => ?_)
          · have hd := hd.1 q
            have h := fun v S9 e => h v S9 (Eq.trans e (if_pos q).symm)
            refine xj_E.adv 8 (pc' := 149) (ls' := [(4, .int 0), (0, .ref 32), (1, .int a), (2, .int b), (3, .int c)]) (st' := [.int a, .ref 38, .int (2 * a)]) (w' := (SH, (xj_set S 32 0 0), T)) rfl ?_
            refine xj_E.iald rfl rfl hd.1 ?_
            have hd := hd.2
            refine xj_E.adv 6 (pc' := 160) (ls' := [(5, .int ((2 * a) + (S 38 a.toNatClampNeg))), (4, .int 0), (0, .ref 32), (1, .int a), (2, .int b), (3, .int c)]) (st' := [.int b, .int ((2 * a) + (S 38 a.toNatClampNeg)), .ref 39]) (w' := (SH, (xj_set S 32 0 0), T)) rfl ?_
            refine xj_E.iast rfl rfl hd.1 ?_
            have hd := hd.2
            refine xj_E.adv 4 (pc' := 168) (ls' := [(5, .int ((2 * a) + (S 38 a.toNatClampNeg))), (4, .int 0), (0, .ref 32), (1, .int a), (2, .int b), (3, .int c)]) (st' := [.int c, .int ((2 * a) + (S 38 a.toNatClampNeg)), .ref 40]) (w' := (SH, (xj_set (xj_set S 32 0 0) 39 ((2 * a) + (S 38 a.toNatClampNeg)).toNatClampNeg b), T)) rfl ?_
            refine xj_E.iast rfl rfl hd.1 ?_
            have hd := hd.2
            refine xj_E.adv 4 (pc' := 175) (ls' := [(5, .int ((2 * a) + (S 38 a.toNatClampNeg))), (4, .int 0), (0, .ref 32), (1, .int a), (2, .int b), (3, .int c)]) (st' := [.int a, .ref 38, .int a, .ref 38]) (w' := (SH, (xj_set (xj_set (xj_set S 32 0 0) 39 ((2 * a) + (S 38 a.toNatClampNeg)).toNatClampNeg b) 40 ((2 * a) + (S 38 a.toNatClampNeg)).toNatClampNeg c), T)) rfl ?_
            refine xj_E.iald rfl rfl hd.1 ?_
            have hd := hd.2
            refine xj_E.adv 2 (pc' := 178) (ls' := [(5, .int ((2 * a) + (S 38 a.toNatClampNeg))), (4, .int 0), (0, .ref 32), (1, .int a), (2, .int b), (3, .int c)]) (st' := [.int ((S 38 a.toNatClampNeg) + 1), .int a, .ref 38]) (w' := (SH, (xj_set (xj_set (xj_set S 32 0 0) 39 ((2 * a) + (S 38 a.toNatClampNeg)).toNatClampNeg b) 40 ((2 * a) + (S 38 a.toNatClampNeg)).toNatClampNeg c), T)) rfl ?_
            refine xj_E.iast rfl rfl hd.1 ?_
            have hd := hd.2
            refine xj_E.adv 3 (pc' := 184) (ls' := [(5, .int ((2 * a) + (S 38 a.toNatClampNeg))), (4, .int 0), (0, .ref 32), (1, .int a), (2, .int b), (3, .int c)]) (st' := [.int a, .ref 38]) (w' := (SH, (xj_set (xj_set (xj_set (xj_set S 32 0 0) 39 ((2 * a) + (S 38 a.toNatClampNeg)).toNatClampNeg b) 40 ((2 * a) + (S 38 a.toNatClampNeg)).toNatClampNeg c) 38 a.toNatClampNeg ((S 38 a.toNatClampNeg) + 1)), T)) rfl ?_
            refine xj_E.iald rfl rfl hd.1 ?_
            have hd := hd.2
            exact xj_E.ret rfl rfl rfl rfl (h _ _ rfl)
          · have hd := hd.2 q
            have h := fun v S9 e => h v S9 (Eq.trans e (if_neg q).symm)
            refine xj_E.adv 2 (pc' := 87) (ls' := [(4, .int 0), (0, .ref 32), (1, .int a), (2, .int b), (3, .int c)]) (st' := [.int 2, .ref 32]) (w' := (SH, (xj_set S 32 0 0), T)) rfl ?_
            refine xj_E.calli (d := D1) (S := SH) rfl rfl rfl rfl rfl (ok_m_fail (by omega) hd.1 ?_)
            intro v2 S2 e2
            refine ⟨_, _, _, rfl, rfl, rfl, rfl, ?_⟩
            have hd := hd.2
            generalize f_m_fail 2 (xj_set S 32 0 0) = Xe2 at e2 hd h
            subst e2
            exact xj_E.ret rfl rfl rfl rfl (h _ _ rfl)
        · have hd := hd.2 q
          have h := fun v S9 e => h v S9 (Eq.trans e (if_neg q).symm)
          refine xj_E.adv 4 (pc' := (if xj_cmp .ge b (S 32 1) = true then 66 else 62)) (ls' := [(0, .ref 32), (1, .int a), (2, .int b), (3, .int c)]) (st' := []) (w' := (SH, (xj_set S 32 0 0), T)) rfl ?_
          refine xj_E.b_ge (fun q => ?_) (fun q => ?_)
          · have hd := hd.1 q
            have h := fun v S9 e => h v S9 (Eq.trans e (if_pos q).symm)
            refine xj_E.adv 8 (pc' := 79) (ls' := [(4, .int 0), (0, .ref 32), (1, .int a), (2, .int b), (3, .int c)]) (st' := [.int 3, .int (b - 100)]) (w' := (SH, (xj_set S 32 0 0), T)) rfl ?_
            refine xj_E.calli (d := D1) (S := SH) rfl rfl rfl rfl rfl (xj_E.deep (ok_m_within (d := 0) hd.1 ?_) (by omega))
            intro w4 f4
            refine ⟨_, _, _, rfl, rfl, rfl, rfl, ?_⟩
            have hd := hd.2
            rw [← f4] at hd
            have h : ∀ v S9, (v, S9) = ((if (r_m_within (xj_set S 32 0 0) (b - 100) 3) ≠ 0 then (((xj_set (xj_set (xj_set (xj_set S 32 0 0) 39 ((2 * a) + (S 38 a.toNatClampNeg)).toNatClampNeg b) 40 ((2 * a) + (S 38 a.toNatClampNeg)).toNatClampNeg c) 38 a.toNatClampNeg ((S 38 a.toNatClampNeg) + 1)) 38 a.toNatClampNeg, (xj_set (xj_set (xj_set (xj_set S 32 0 0) 39 ((2 * a) + (S 38 a.toNatClampNeg)).toNatClampNeg b) 40 ((2 * a) + (S 38 a.toNatClampNeg)).toNatClampNeg c) 38 a.toNatClampNeg ((S 38 a.toNatClampNeg) + 1)))) else (match f_m_fail 2 (xj_set S 32 0 0) with | (v3, S3) => (v3, S3))) : Int32 × (Nat → Nat → Int32)) → P (.inl (some (.int v))) (SH, S9, T) 0 0 := h
            rw [← f4] at h
            refine xj_E.adv 1 (pc' := (if xj_cmp .ne w4 0 = true then 91 else 85)) (ls' := [(4, .int 0), (0, .ref 32), (1, .int a), (2, .int b), (3, .int c)]) (st' := []) (w' := (SH, (xj_set S 32 0 0), T)) rfl ?_
            refine xj_E.b_ne (fun q => ?_) (fun q => ?_)
            · have hd := hd.1 q
              have h := fun v S9 e => h v S9 (Eq.trans e (if_pos q).symm)
              refine xj_E.adv 8 (pc' := 149) (ls' := [(4, .int 0), (0, .ref 32), (1, .int a), (2, .int b), (3, .int c)]) (st' := [.int a, .ref 38, .int (2 * a)]) (w' := (SH, (xj_set S 32 0 0), T)) rfl ?_
              refine xj_E.iald rfl rfl hd.1 ?_
              have hd := hd.2
              refine xj_E.adv 6 (pc' := 160) (ls' := [(5, .int ((2 * a) + (S 38 a.toNatClampNeg))), (4, .int 0), (0, .ref 32), (1, .int a), (2, .int b), (3, .int c)]) (st' := [.int b, .int ((2 * a) + (S 38 a.toNatClampNeg)), .ref 39]) (w' := (SH, (xj_set S 32 0 0), T)) rfl ?_
              refine xj_E.iast rfl rfl hd.1 ?_
              have hd := hd.2
              refine xj_E.adv 4 (pc' := 168) (ls' := [(5, .int ((2 * a) + (S 38 a.toNatClampNeg))), (4, .int 0), (0, .ref 32), (1, .int a), (2, .int b), (3, .int c)]) (st' := [.int c, .int ((2 * a) + (S 38 a.toNatClampNeg)), .ref 40]) (w' := (SH, (xj_set (xj_set S 32 0 0) 39 ((2 * a) + (S 38 a.toNatClampNeg)).toNatClampNeg b), T)) rfl ?_
              refine xj_E.iast rfl rfl hd.1 ?_
              have hd := hd.2
              refine xj_E.adv 4 (pc' := 175) (ls' := [(5, .int ((2 * a) + (S 38 a.toNatClampNeg))), (4, .int 0), (0, .ref 32), (1, .int a), (2, .int b), (3, .int c)]) (st' := [.int a, .ref 38, .int a, .ref 38]) (w' := (SH, (xj_set (xj_set (xj_set S 32 0 0) 39 ((2 * a) + (S 38 a.toNatClampNeg)).toNatClampNeg b) 40 ((2 * a) + (S 38 a.toNatClampNeg)).toNatClampNeg c), T)) rfl ?_
              refine xj_E.iald rfl rfl hd.1 ?_
              have hd := hd.2
              refine xj_E.adv 2 (pc' := 178) (ls' := [(5, .int ((2 * a) + (S 38 a.toNatClampNeg))), (4, .int 0), (0, .ref 32), (1, .int a), (2, .int b), (3, .int c)]) (st' := [.int ((S 38 a.toNatClampNeg) + 1), .int a, .ref 38]) (w' := (SH, (xj_set (xj_set (xj_set S 32 0 0) 39 ((2 * a) + (S 38 a.toNatClampNeg)).toNatClampNeg b) 40 ((2 * a) + (S 38 a.toNatClampNeg)).toNatClampNeg c), T)) rfl ?_
              refine xj_E.iast rfl rfl hd.1 ?_
              have hd := hd.2
              refine xj_E.adv 3 (pc' := 184) (ls' := [(5, .int ((2 * a) + (S 38 a.toNatClampNeg))), (4, .int 0), (0, .ref 32), (1, .int a), (2, .int b), (3, .int c)]) (st' := [.int a, .ref 38]) (w' := (SH, (xj_set (xj_set (xj_set (xj_set S 32 0 0) 39 ((2 * a) + (S 38 a.toNatClampNeg)).toNatClampNeg b) 40 ((2 * a) + (S 38 a.toNatClampNeg)).toNatClampNeg c) 38 a.toNatClampNeg ((S 38 a.toNatClampNeg) + 1)), T)) rfl ?_
              refine xj_E.iald rfl rfl hd.1 ?_
              have hd := hd.2
              exact xj_E.ret rfl rfl rfl rfl (h _ _ rfl)
            · have hd := hd.2 q
              have h := fun v S9 e => h v S9 (Eq.trans e (if_neg q).symm)
              refine xj_E.adv 2 (pc' := 87) (ls' := [(4, .int 0), (0, .ref 32), (1, .int a), (2, .int b), (3, .int c)]) (st' := [.int 2, .ref 32]) (w' := (SH, (xj_set S 32 0 0), T)) rfl ?_
              refine xj_E.calli (d := D1) (S := SH) rfl rfl rfl rfl rfl (ok_m_fail (by omega) hd.1 ?_)
              intro v3 S3 e3
              refine ⟨_, _, _, rfl, rfl, rfl, rfl, ?_⟩
              have hd := hd.2
              generalize f_m_fail 2 (xj_set S 32 0 0) = Xe3 at e3 hd h
              subst e3
              exact xj_E.ret rfl rfl rfl rfl (h _ _ rfl)
          · have hd := hd.2 q
            have h := fun v S9 e => h v S9 (Eq.trans e (if_neg q).symm)
            refine xj_E.adv 11 (pc' := 102) (ls' := [(4, .int 1), (0, .ref 32), (1, .int a), (2, .int b), (3, .int c)]) (st' := [.int a, .ref 36, .int b]) (w' := (SH, (xj_set S 32 0 0), T)) rfl ?_
            refine xj_E.iald rfl rfl hd.1 ?_
            have hd := hd.2
            refine xj_E.adv 1 (pc' := (if xj_cmp .eq b (S 36 a.toNatClampNeg) = true then 135 else 106)) (ls' := [(4, .int 1), (0, .ref 32), (1, .int a), (2, .int b), (3, .int c)]) (st' := []) (w' := (SH, (xj_set S 32 0 0), T)) rfl ?_
            refine xj_E.b_eq (fun q => ?_) (fun q => ?_)
            · have hd := hd.1 q
              have h := fun v S9 e => h v S9 (Eq.trans e (if_pos q).symm)
              refine xj_E.adv 2 (pc' := 137) (ls' := [(4, .int 1), (0, .ref 32), (1, .int a), (2, .int b), (3, .int c)]) (st' := [.int 2, .ref 32]) (w' := (SH, (xj_set S 32 0 0), T)) rfl ?_
              refine xj_E.calli (d := D1) (S := SH) rfl rfl rfl rfl rfl (ok_m_fail (by omega) hd.1 ?_)
              intro v4 S4 e4
              refine ⟨_, _, _, rfl, rfl, rfl, rfl, ?_⟩
              have hd := hd.2
              generalize f_m_fail 2 (xj_set S 32 0 0) = Xe4 at e4 hd h
              subst e4
              exact xj_E.ret rfl rfl rfl rfl (h _ _ rfl)
            · have hd := hd.2 q
              have h := fun v S9 e => h v S9 (Eq.trans e (if_neg q).symm)
              refine xj_E.adv 3 (pc' := 111) (ls' := [(4, .int 1), (0, .ref 32), (1, .int a), (2, .int b), (3, .int c)]) (st' := [.int b, .ref 34]) (w' := (SH, (xj_set S 32 0 0), T)) rfl ?_
              refine xj_E.iald rfl rfl hd.1 ?_
              have hd := hd.2
              refine xj_E.adv 5 (pc' := 121) (ls' := [(4, .int 1), (0, .ref 32), (1, .int a), (2, .int b), (3, .int c)]) (st' := [.int a, .ref 36, .ref 34, .int (S 34 b.toNatClampNeg)]) (w' := (SH, (xj_set S 32 0 0), T)) rfl ?_
              refine xj_E.iald rfl rfl hd.1 ?_
              have hd := hd.2
              refine xj_E.iald rfl rfl hd.1 ?_
              have hd := hd.2
              refine xj_E.adv 1 (pc' := (if xj_cmp .ne (S 34 b.toNatClampNeg) (S 34 (S 36 a.toNatClampNeg).toNatClampNeg) = true then 135 else 126)) (ls' := [(4, .int 1), (0, .ref 32), (1, .int a), (2, .int b), (3, .int c)]) (st' := []) (w' := (SH, (xj_set S 32 0 0), T)) rfl ?_
              refine xj_E.b_ne (fun q => ?_) (fun q => ?_)
              · have hd := hd.1 q
                have h := fun v S9 e => h v S9 (Eq.trans e (if_pos q).symm)
                refine xj_E.adv 2 (pc' := 137) (ls' := [(4, .int 1), (0, .ref 32), (1, .int a), (2, .int b), (3, .int c)]) (st' := [.int 2, .ref 32]) (w' := (SH, (xj_set S 32 0 0), T)) rfl ?_
                refine xj_E.calli (d := D1) (S := SH) rfl rfl rfl rfl rfl (ok_m_fail (by omega) hd.1 ?_)
                intro v5 S5 e5
                refine ⟨_, _, _, rfl, rfl, rfl, rfl, ?_⟩
                have hd := hd.2
                generalize f_m_fail 2 (xj_set S 32 0 0) = Xe5 at e5 hd h
                subst e5
                exact xj_E.ret rfl rfl rfl rfl (h _ _ rfl)
              · have hd := hd.2 q
                have h := fun v S9 e => h v S9 (Eq.trans e (if_neg q).symm)
                refine xj_E.adv 2 (pc' := 129) (ls' := [(4, .int 1), (0, .ref 32), (1, .int a), (2, .int b), (3, .int c)]) (st' := [.int 9, .int c]) (w' := (SH, (xj_set S 32 0 0), T)) rfl ?_
                refine xj_E.calli (d := D1) (S := SH) rfl rfl rfl rfl rfl (xj_E.deep (ok_m_within (d := 0) hd.1 ?_) (by omega))
                intro w5 f5
                refine ⟨_, _, _, rfl, rfl, rfl, rfl, ?_⟩
                have hd := hd.2
                rw [← f5] at hd
                have h : ∀ v S9, (v, S9) = ((if (r_m_within (xj_set S 32 0 0) c 9) ≠ 0 then (((xj_set (xj_set (xj_set (xj_set S 32 0 0) 39 ((2 * a) + (S 38 a.toNatClampNeg)).toNatClampNeg b) 40 ((2 * a) + (S 38 a.toNatClampNeg)).toNatClampNeg c) 38 a.toNatClampNeg ((S 38 a.toNatClampNeg) + 1)) 38 a.toNatClampNeg, (xj_set (xj_set (xj_set (xj_set S 32 0 0) 39 ((2 * a) + (S 38 a.toNatClampNeg)).toNatClampNeg b) 40 ((2 * a) + (S 38 a.toNatClampNeg)).toNatClampNeg c) 38 a.toNatClampNeg ((S 38 a.toNatClampNeg) + 1)))) else (match f_m_fail 2 (xj_set S 32 0 0) with | (v6, S6) => (v6, S6))) : Int32 × (Nat → Nat → Int32)) → P (.inl (some (.int v))) (SH, S9, T) 0 0 := h
                rw [← f5] at h
                refine xj_E.adv 1 (pc' := (if xj_cmp .ne w5 0 = true then 141 else 135)) (ls' := [(4, .int 1), (0, .ref 32), (1, .int a), (2, .int b), (3, .int c)]) (st' := []) (w' := (SH, (xj_set S 32 0 0), T)) rfl ?_
                refine xj_E.b_ne (fun q => ?_) (fun q => ?_)
                · have hd := hd.1 q
                  have h := fun v S9 e => h v S9 (Eq.trans e (if_pos q).symm)
                  refine xj_E.adv 6 (pc' := 149) (ls' := [(4, .int 1), (0, .ref 32), (1, .int a), (2, .int b), (3, .int c)]) (st' := [.int a, .ref 38, .int (2 * a)]) (w' := (SH, (xj_set S 32 0 0), T)) rfl ?_
                  refine xj_E.iald rfl rfl hd.1 ?_
                  have hd := hd.2
                  refine xj_E.adv 6 (pc' := 160) (ls' := [(5, .int ((2 * a) + (S 38 a.toNatClampNeg))), (4, .int 1), (0, .ref 32), (1, .int a), (2, .int b), (3, .int c)]) (st' := [.int b, .int ((2 * a) + (S 38 a.toNatClampNeg)), .ref 39]) (w' := (SH, (xj_set S 32 0 0), T)) rfl ?_
                  refine xj_E.iast rfl rfl hd.1 ?_
                  have hd := hd.2
                  refine xj_E.adv 4 (pc' := 168) (ls' := [(5, .int ((2 * a) + (S 38 a.toNatClampNeg))), (4, .int 1), (0, .ref 32), (1, .int a), (2, .int b), (3, .int c)]) (st' := [.int c, .int ((2 * a) + (S 38 a.toNatClampNeg)), .ref 40]) (w' := (SH, (xj_set (xj_set S 32 0 0) 39 ((2 * a) + (S 38 a.toNatClampNeg)).toNatClampNeg b), T)) rfl ?_
                  refine xj_E.iast rfl rfl hd.1 ?_
                  have hd := hd.2
                  refine xj_E.adv 4 (pc' := 175) (ls' := [(5, .int ((2 * a) + (S 38 a.toNatClampNeg))), (4, .int 1), (0, .ref 32), (1, .int a), (2, .int b), (3, .int c)]) (st' := [.int a, .ref 38, .int a, .ref 38]) (w' := (SH, (xj_set (xj_set (xj_set S 32 0 0) 39 ((2 * a) + (S 38 a.toNatClampNeg)).toNatClampNeg b) 40 ((2 * a) + (S 38 a.toNatClampNeg)).toNatClampNeg c), T)) rfl ?_
                  refine xj_E.iald rfl rfl hd.1 ?_
                  have hd := hd.2
                  refine xj_E.adv 2 (pc' := 178) (ls' := [(5, .int ((2 * a) + (S 38 a.toNatClampNeg))), (4, .int 1), (0, .ref 32), (1, .int a), (2, .int b), (3, .int c)]) (st' := [.int ((S 38 a.toNatClampNeg) + 1), .int a, .ref 38]) (w' := (SH, (xj_set (xj_set (xj_set S 32 0 0) 39 ((2 * a) + (S 38 a.toNatClampNeg)).toNatClampNeg b) 40 ((2 * a) + (S 38 a.toNatClampNeg)).toNatClampNeg c), T)) rfl ?_
                  refine xj_E.iast rfl rfl hd.1 ?_
                  have hd := hd.2
                  refine xj_E.adv 3 (pc' := 184) (ls' := [(5, .int ((2 * a) + (S 38 a.toNatClampNeg))), (4, .int 1), (0, .ref 32), (1, .int a), (2, .int b), (3, .int c)]) (st' := [.int a, .ref 38]) (w' := (SH, (xj_set (xj_set (xj_set (xj_set S 32 0 0) 39 ((2 * a) + (S 38 a.toNatClampNeg)).toNatClampNeg b) 40 ((2 * a) + (S 38 a.toNatClampNeg)).toNatClampNeg c) 38 a.toNatClampNeg ((S 38 a.toNatClampNeg) + 1)), T)) rfl ?_
                  refine xj_E.iald rfl rfl hd.1 ?_
                  have hd := hd.2
                  exact xj_E.ret rfl rfl rfl rfl (h _ _ rfl)
                · have hd := hd.2 q
                  have h := fun v S9 e => h v S9 (Eq.trans e (if_neg q).symm)
                  refine xj_E.adv 2 (pc' := 137) (ls' := [(4, .int 1), (0, .ref 32), (1, .int a), (2, .int b), (3, .int c)]) (st' := [.int 2, .ref 32]) (w' := (SH, (xj_set S 32 0 0), T)) rfl ?_
                  refine xj_E.calli (d := D1) (S := SH) rfl rfl rfl rfl rfl (ok_m_fail (by omega) hd.1 ?_)
                  intro v6 S6 e6
                  refine ⟨_, _, _, rfl, rfl, rfl, rfl, ?_⟩
                  have hd := hd.2
                  generalize f_m_fail 2 (xj_set S 32 0 0) = Xe6 at e6 hd h
                  subst e6
                  exact xj_E.ret rfl rfl rfl rfl (h _ _ rfl)
      · have hd := hd.2 q
        have h := fun v S9 e => h v S9 (Eq.trans e (if_neg q).symm)
        refine xj_E.adv 2 (pc' := 46) (ls' := [(0, .ref 32), (1, .int a), (2, .int b), (3, .int c)]) (st' := [.int 2, .ref 32]) (w' := (SH, (xj_set S 32 0 0), T)) rfl ?_
        refine xj_E.calli (d := D1) (S := SH) rfl rfl rfl rfl rfl (ok_m_fail (by omega) hd.1 ?_)
        intro v7 S7 e7
        refine ⟨_, _, _, rfl, rfl, rfl, rfl, ?_⟩
        have hd := hd.2
        generalize f_m_fail 2 (xj_set S 32 0 0) = Xe7 at e7 hd h
        subst e7
        exact xj_E.ret rfl rfl rfl rfl (h _ _ rfl)
    · have hd := hd.2 q
      have h := fun v S9 e => h v S9 (Eq.trans e (if_neg q).symm)
      refine xj_E.adv 3 (pc' := 25) (ls' := [(0, .ref 32), (1, .int a), (2, .int b), (3, .int c)]) (st' := [.int a, .ref 38]) (w' := (SH, (xj_set S 32 0 0), T)) rfl ?_
      refine xj_E.iald rfl rfl hd.1 ?_
      have hd := hd.2
      refine xj_E.adv 2 (pc' := (if xj_cmp .ne (S 38 a.toNatClampNeg) 2 = true then 36 else 30)) (ls' := [(0, .ref 32), (1, .int a), (2, .int b), (3, .int c)]) (st' := []) (w' := (SH, (xj_set S 32 0 0), T)) rfl ?_
      refine xj_E.b_ne (fun q => ?_) (fun q => ?_)
      · have hd := hd.1 q
        have h := fun v S9 e => h v S9 (Eq.trans e (if_pos q).symm)
        refine xj_E.adv 2 (pc' := 38) (ls' := [(0, .ref 32), (1, .int a), (2, .int b), (3, .int c)]) (st' := [.int a, .ref 32]) (w' := (SH, (xj_set S 32 0 0), T)) rfl ?_
        refine xj_E.calli (d := D1) (S := SH) rfl rfl rfl rfl rfl (xj_E.deep (ok_m_isSentry (d := 0) hd.1 ?_) (by omega))
        intro w6 f6
        have f6 := f1.trans f6.symm
        subst f6
        refine ⟨_, _, _, rfl, rfl, rfl, rfl, ?_⟩
        have hd := hd.2
        refine xj_E.adv 1 (pc' := (if xj_cmp .ne w1 0 = true then 50 else 44)) (ls' := [(0, .ref 32), (1, .int a), (2, .int b), (3, .int c)]) (st' := []) (w' := (SH, (xj_set S 32 0 0), T)) rfl ?_
        refine xj_E.b_ne (fun q => ?_) (fun q => ?_)
        · have hd := hd.1 q
          have h := fun v S9 e => h v S9 (Eq.trans e (if_pos q).symm)
          refine xj_E.adv 2 (pc' := (if xj_cmp .lt b 0 = true then 66 else 54)) (ls' := [(0, .ref 32), (1, .int a), (2, .int b), (3, .int c)]) (st' := []) (w' := (SH, (xj_set S 32 0 0), T)) rfl ?_
          refine xj_E.b_lt (fun q => ?_) (fun q => ?_)
          · have hd := hd.1 q
            have h := fun v S9 e => h v S9 (Eq.trans e (if_pos q).symm)
            refine xj_E.adv 8 (pc' := 79) (ls' := [(4, .int 0), (0, .ref 32), (1, .int a), (2, .int b), (3, .int c)]) (st' := [.int 3, .int (b - 100)]) (w' := (SH, (xj_set S 32 0 0), T)) rfl ?_
            refine xj_E.calli (d := D1) (S := SH) rfl rfl rfl rfl rfl (xj_E.deep (ok_m_within (d := 0) hd.1 ?_) (by omega))
            intro w7 f7
            refine ⟨_, _, _, rfl, rfl, rfl, rfl, ?_⟩
            have hd := hd.2
            rw [← f7] at hd
            have h : ∀ v S9, (v, S9) = ((if (r_m_within (xj_set S 32 0 0) (b - 100) 3) ≠ 0 then (((xj_set (xj_set (xj_set (xj_set S 32 0 0) 39 ((2 * a) + (S 38 a.toNatClampNeg)).toNatClampNeg b) 40 ((2 * a) + (S 38 a.toNatClampNeg)).toNatClampNeg c) 38 a.toNatClampNeg ((S 38 a.toNatClampNeg) + 1)) 38 a.toNatClampNeg, (xj_set (xj_set (xj_set (xj_set S 32 0 0) 39 ((2 * a) + (S 38 a.toNatClampNeg)).toNatClampNeg b) 40 ((2 * a) + (S 38 a.toNatClampNeg)).toNatClampNeg c) 38 a.toNatClampNeg ((S 38 a.toNatClampNeg) + 1)))) else (match f_m_fail 2 (xj_set S 32 0 0) with | (v8, S8) => (v8, S8))) : Int32 × (Nat → Nat → Int32)) → P (.inl (some (.int v))) (SH, S9, T) 0 0 := h
            rw [← f7] at h
            refine xj_E.adv 1 (pc' := (if xj_cmp .ne w7 0 = true then 91 else 85)) (ls' := [(4, .int 0), (0, .ref 32), (1, .int a), (2, .int b), (3, .int c)]) (st' := []) (w' := (SH, (xj_set S 32 0 0), T)) rfl ?_
            refine xj_E.b_ne (fun q => ?_) (fun q => ?_)
            · have hd := hd.1 q
              have h := fun v S9 e => h v S9 (Eq.trans e (if_pos q).symm)
              refine xj_E.adv 8 (pc' := 149) (ls' := [(4, .int 0), (0, .ref 32), (1, .int a), (2, .int b), (3, .int c)]) (st' := [.int a, .ref 38, .int (2 * a)]) (w' := (SH, (xj_set S 32 0 0), T)) rfl ?_
              refine xj_E.iald rfl rfl hd.1 ?_
              have hd := hd.2
              refine xj_E.adv 6 (pc' := 160) (ls' := [(5, .int ((2 * a) + (S 38 a.toNatClampNeg))), (4, .int 0), (0, .ref 32), (1, .int a), (2, .int b), (3, .int c)]) (st' := [.int b, .int ((2 * a) + (S 38 a.toNatClampNeg)), .ref 39]) (w' := (SH, (xj_set S 32 0 0), T)) rfl ?_
              refine xj_E.iast rfl rfl hd.1 ?_
              have hd := hd.2
              refine xj_E.adv 4 (pc' := 168) (ls' := [(5, .int ((2 * a) + (S 38 a.toNatClampNeg))), (4, .int 0), (0, .ref 32), (1, .int a), (2, .int b), (3, .int c)]) (st' := [.int c, .int ((2 * a) + (S 38 a.toNatClampNeg)), .ref 40]) (w' := (SH, (xj_set (xj_set S 32 0 0) 39 ((2 * a) + (S 38 a.toNatClampNeg)).toNatClampNeg b), T)) rfl ?_
              refine xj_E.iast rfl rfl hd.1 ?_
              have hd := hd.2
              refine xj_E.adv 4 (pc' := 175) (ls' := [(5, .int ((2 * a) + (S 38 a.toNatClampNeg))), (4, .int 0), (0, .ref 32), (1, .int a), (2, .int b), (3, .int c)]) (st' := [.int a, .ref 38, .int a, .ref 38]) (w' := (SH, (xj_set (xj_set (xj_set S 32 0 0) 39 ((2 * a) + (S 38 a.toNatClampNeg)).toNatClampNeg b) 40 ((2 * a) + (S 38 a.toNatClampNeg)).toNatClampNeg c), T)) rfl ?_
              refine xj_E.iald rfl rfl hd.1 ?_
              have hd := hd.2
              refine xj_E.adv 2 (pc' := 178) (ls' := [(5, .int ((2 * a) + (S 38 a.toNatClampNeg))), (4, .int 0), (0, .ref 32), (1, .int a), (2, .int b), (3, .int c)]) (st' := [.int ((S 38 a.toNatClampNeg) + 1), .int a, .ref 38]) (w' := (SH, (xj_set (xj_set (xj_set S 32 0 0) 39 ((2 * a) + (S 38 a.toNatClampNeg)).toNatClampNeg b) 40 ((2 * a) + (S 38 a.toNatClampNeg)).toNatClampNeg c), T)) rfl ?_
              refine xj_E.iast rfl rfl hd.1 ?_
              have hd := hd.2
              refine xj_E.adv 3 (pc' := 184) (ls' := [(5, .int ((2 * a) + (S 38 a.toNatClampNeg))), (4, .int 0), (0, .ref 32), (1, .int a), (2, .int b), (3, .int c)]) (st' := [.int a, .ref 38]) (w' := (SH, (xj_set (xj_set (xj_set (xj_set S 32 0 0) 39 ((2 * a) + (S 38 a.toNatClampNeg)).toNatClampNeg b) 40 ((2 * a) + (S 38 a.toNatClampNeg)).toNatClampNeg c) 38 a.toNatClampNeg ((S 38 a.toNatClampNeg) + 1)), T)) rfl ?_
              refine xj_E.iald rfl rfl hd.1 ?_
              have hd := hd.2
              exact xj_E.ret rfl rfl rfl rfl (h _ _ rfl)
            · have hd := hd.2 q
              have h := fun v S9 e => h v S9 (Eq.trans e (if_neg q).symm)
              refine xj_E.adv 2 (pc' := 87) (ls' := [(4, .int 0), (0, .ref 32), (1, .int a), (2, .int b), (3, .int c)]) (st' := [.int 2, .ref 32]) (w' := (SH, (xj_set S 32 0 0), T)) rfl ?_
              refine xj_E.calli (d := D1) (S := SH) rfl rfl rfl rfl rfl (ok_m_fail (by omega) hd.1 ?_)
              intro v8 S8 e8
              refine ⟨_, _, _, rfl, rfl, rfl, rfl, ?_⟩
              have hd := hd.2
              generalize f_m_fail 2 (xj_set S 32 0 0) = Xe8 at e8 hd h
              subst e8
              exact xj_E.ret rfl rfl rfl rfl (h _ _ rfl)
          · have hd := hd.2 q
            have h := fun v S9 e => h v S9 (Eq.trans e (if_neg q).symm)
            refine xj_E.adv 4 (pc' := (if xj_cmp .ge b (S 32 1) = true then 66 else 62)) (ls' := [(0, .ref 32), (1, .int a), (2, .int b), (3, .int c)]) (st' := []) (w' := (SH, (xj_set S 32 0 0), T)) rfl ?_
            refine xj_E.b_ge (fun q => ?_) (fun q => ?_)
            · have hd := hd.1 q
              have h := fun v S9 e => h v S9 (Eq.trans e (if_pos q).symm)
              refine xj_E.adv 8 (pc' := 79) (ls' := [(4, .int 0), (0, .ref 32), (1, .int a), (2, .int b), (3, .int c)]) (st' := [.int 3, .int (b - 100)]) (w' := (SH, (xj_set S 32 0 0), T)) rfl ?_
              refine xj_E.calli (d := D1) (S := SH) rfl rfl rfl rfl rfl (xj_E.deep (ok_m_within (d := 0) hd.1 ?_) (by omega))
              intro w8 f8
              refine ⟨_, _, _, rfl, rfl, rfl, rfl, ?_⟩
              have hd := hd.2
              rw [← f8] at hd
              have h : ∀ v S9, (v, S9) = ((if (r_m_within (xj_set S 32 0 0) (b - 100) 3) ≠ 0 then (((xj_set (xj_set (xj_set (xj_set S 32 0 0) 39 ((2 * a) + (S 38 a.toNatClampNeg)).toNatClampNeg b) 40 ((2 * a) + (S 38 a.toNatClampNeg)).toNatClampNeg c) 38 a.toNatClampNeg ((S 38 a.toNatClampNeg) + 1)) 38 a.toNatClampNeg, (xj_set (xj_set (xj_set (xj_set S 32 0 0) 39 ((2 * a) + (S 38 a.toNatClampNeg)).toNatClampNeg b) 40 ((2 * a) + (S 38 a.toNatClampNeg)).toNatClampNeg c) 38 a.toNatClampNeg ((S 38 a.toNatClampNeg) + 1)))) else (match f_m_fail 2 (xj_set S 32 0 0) with | (v9, S9) => (v9, S9))) : Int32 × (Nat → Nat → Int32)) → P (.inl (some (.int v))) (SH, S9, T) 0 0 := h
              rw [← f8] at h
              refine xj_E.adv 1 (pc' := (if xj_cmp .ne w8 0 = true then 91 else 85)) (ls' := [(4, .int 0), (0, .ref 32), (1, .int a), (2, .int b), (3, .int c)]) (st' := []) (w' := (SH, (xj_set S 32 0 0), T)) rfl ?_
              refine xj_E.b_ne (fun q => ?_) (fun q => ?_)
              · have hd := hd.1 q
                have h := fun v S9 e => h v S9 (Eq.trans e (if_pos q).symm)
                refine xj_E.adv 8 (pc' := 149) (ls' := [(4, .int 0), (0, .ref 32), (1, .int a), (2, .int b), (3, .int c)]) (st' := [.int a, .ref 38, .int (2 * a)]) (w' := (SH, (xj_set S 32 0 0), T)) rfl ?_
                refine xj_E.iald rfl rfl hd.1 ?_
                have hd := hd.2
                refine xj_E.adv 6 (pc' := 160) (ls' := [(5, .int ((2 * a) + (S 38 a.toNatClampNeg))), (4, .int 0), (0, .ref 32), (1, .int a), (2, .int b), (3, .int c)]) (st' := [.int b, .int ((2 * a) + (S 38 a.toNatClampNeg)), .ref 39]) (w' := (SH, (xj_set S 32 0 0), T)) rfl ?_
                refine xj_E.iast rfl rfl hd.1 ?_
                have hd := hd.2
                refine xj_E.adv 4 (pc' := 168) (ls' := [(5, .int ((2 * a) + (S 38 a.toNatClampNeg))), (4, .int 0), (0, .ref 32), (1, .int a), (2, .int b), (3, .int c)]) (st' := [.int c, .int ((2 * a) + (S 38 a.toNatClampNeg)), .ref 40]) (w' := (SH, (xj_set (xj_set S 32 0 0) 39 ((2 * a) + (S 38 a.toNatClampNeg)).toNatClampNeg b), T)) rfl ?_
                refine xj_E.iast rfl rfl hd.1 ?_
                have hd := hd.2
                refine xj_E.adv 4 (pc' := 175) (ls' := [(5, .int ((2 * a) + (S 38 a.toNatClampNeg))), (4, .int 0), (0, .ref 32), (1, .int a), (2, .int b), (3, .int c)]) (st' := [.int a, .ref 38, .int a, .ref 38]) (w' := (SH, (xj_set (xj_set (xj_set S 32 0 0) 39 ((2 * a) + (S 38 a.toNatClampNeg)).toNatClampNeg b) 40 ((2 * a) + (S 38 a.toNatClampNeg)).toNatClampNeg c), T)) rfl ?_
                refine xj_E.iald rfl rfl hd.1 ?_
                have hd := hd.2
                refine xj_E.adv 2 (pc' := 178) (ls' := [(5, .int ((2 * a) + (S 38 a.toNatClampNeg))), (4, .int 0), (0, .ref 32), (1, .int a), (2, .int b), (3, .int c)]) (st' := [.int ((S 38 a.toNatClampNeg) + 1), .int a, .ref 38]) (w' := (SH, (xj_set (xj_set (xj_set S 32 0 0) 39 ((2 * a) + (S 38 a.toNatClampNeg)).toNatClampNeg b) 40 ((2 * a) + (S 38 a.toNatClampNeg)).toNatClampNeg c), T)) rfl ?_
                refine xj_E.iast rfl rfl hd.1 ?_
                have hd := hd.2
                refine xj_E.adv 3 (pc' := 184) (ls' := [(5, .int ((2 * a) + (S 38 a.toNatClampNeg))), (4, .int 0), (0, .ref 32), (1, .int a), (2, .int b), (3, .int c)]) (st' := [.int a, .ref 38]) (w' := (SH, (xj_set (xj_set (xj_set (xj_set S 32 0 0) 39 ((2 * a) + (S 38 a.toNatClampNeg)).toNatClampNeg b) 40 ((2 * a) + (S 38 a.toNatClampNeg)).toNatClampNeg c) 38 a.toNatClampNeg ((S 38 a.toNatClampNeg) + 1)), T)) rfl ?_
                refine xj_E.iald rfl rfl hd.1 ?_
                have hd := hd.2
                exact xj_E.ret rfl rfl rfl rfl (h _ _ rfl)
              · have hd := hd.2 q
                have h := fun v S9 e => h v S9 (Eq.trans e (if_neg q).symm)
                refine xj_E.adv 2 (pc' := 87) (ls' := [(4, .int 0), (0, .ref 32), (1, .int a), (2, .int b), (3, .int c)]) (st' := [.int 2, .ref 32]) (w' := (SH, (xj_set S 32 0 0), T)) rfl ?_
                refine xj_E.calli (d := D1) (S := SH) rfl rfl rfl rfl rfl (ok_m_fail (by omega) hd.1 ?_)
                intro v9 S9 e9
                refine ⟨_, _, _, rfl, rfl, rfl, rfl, ?_⟩
                have hd := hd.2
                generalize f_m_fail 2 (xj_set S 32 0 0) = Xe9 at e9 hd h
                subst e9
                exact xj_E.ret rfl rfl rfl rfl (h _ _ rfl)
            · have hd := hd.2 q
              have h := fun v S9 e => h v S9 (Eq.trans e (if_neg q).symm)
              refine xj_E.adv 11 (pc' := 102) (ls' := [(4, .int 1), (0, .ref 32), (1, .int a), (2, .int b), (3, .int c)]) (st' := [.int a, .ref 36, .int b]) (w' := (SH, (xj_set S 32 0 0), T)) rfl ?_
              refine xj_E.iald rfl rfl hd.1 ?_
              have hd := hd.2
              refine xj_E.adv 1 (pc' := (if xj_cmp .eq b (S 36 a.toNatClampNeg) = true then 135 else 106)) (ls' := [(4, .int 1), (0, .ref 32), (1, .int a), (2, .int b), (3, .int c)]) (st' := []) (w' := (SH, (xj_set S 32 0 0), T)) rfl ?_
              refine xj_E.b_eq (fun q => ?_) (fun q => ?_)
              · have hd := hd.1 q
                have h := fun v S9 e => h v S9 (Eq.trans e (if_pos q).symm)
                refine xj_E.adv 2 (pc' := 137) (ls' := [(4, .int 1), (0, .ref 32), (1, .int a), (2, .int b), (3, .int c)]) (st' := [.int 2, .ref 32]) (w' := (SH, (xj_set S 32 0 0), T)) rfl ?_
                refine xj_E.calli (d := D1) (S := SH) rfl rfl rfl rfl rfl (ok_m_fail (by omega) hd.1 ?_)
                intro v10 S10 e10
                refine ⟨_, _, _, rfl, rfl, rfl, rfl, ?_⟩
                have hd := hd.2
                generalize f_m_fail 2 (xj_set S 32 0 0) = Xe10 at e10 hd h
                subst e10
                exact xj_E.ret rfl rfl rfl rfl (h _ _ rfl)
              · have hd := hd.2 q
                have h := fun v S9 e => h v S9 (Eq.trans e (if_neg q).symm)
                refine xj_E.adv 3 (pc' := 111) (ls' := [(4, .int 1), (0, .ref 32), (1, .int a), (2, .int b), (3, .int c)]) (st' := [.int b, .ref 34]) (w' := (SH, (xj_set S 32 0 0), T)) rfl ?_
                refine xj_E.iald rfl rfl hd.1 ?_
                have hd := hd.2
                refine xj_E.adv 5 (pc' := 121) (ls' := [(4, .int 1), (0, .ref 32), (1, .int a), (2, .int b), (3, .int c)]) (st' := [.int a, .ref 36, .ref 34, .int (S 34 b.toNatClampNeg)]) (w' := (SH, (xj_set S 32 0 0), T)) rfl ?_
                refine xj_E.iald rfl rfl hd.1 ?_
                have hd := hd.2
                refine xj_E.iald rfl rfl hd.1 ?_
                have hd := hd.2
                refine xj_E.adv 1 (pc' := (if xj_cmp .ne (S 34 b.toNatClampNeg) (S 34 (S 36 a.toNatClampNeg).toNatClampNeg) = true then 135 else 126)) (ls' := [(4, .int 1), (0, .ref 32), (1, .int a), (2, .int b), (3, .int c)]) (st' := []) (w' := (SH, (xj_set S 32 0 0), T)) rfl ?_
                refine xj_E.b_ne (fun q => ?_) (fun q => ?_)
                · have hd := hd.1 q
                  have h := fun v S9 e => h v S9 (Eq.trans e (if_pos q).symm)
                  refine xj_E.adv 2 (pc' := 137) (ls' := [(4, .int 1), (0, .ref 32), (1, .int a), (2, .int b), (3, .int c)]) (st' := [.int 2, .ref 32]) (w' := (SH, (xj_set S 32 0 0), T)) rfl ?_
                  refine xj_E.calli (d := D1) (S := SH) rfl rfl rfl rfl rfl (ok_m_fail (by omega) hd.1 ?_)
                  intro v11 S11 e11
                  refine ⟨_, _, _, rfl, rfl, rfl, rfl, ?_⟩
                  have hd := hd.2
                  generalize f_m_fail 2 (xj_set S 32 0 0) = Xe11 at e11 hd h
                  subst e11
                  exact xj_E.ret rfl rfl rfl rfl (h _ _ rfl)
                · have hd := hd.2 q
                  have h := fun v S9 e => h v S9 (Eq.trans e (if_neg q).symm)
                  refine xj_E.adv 2 (pc' := 129) (ls' := [(4, .int 1), (0, .ref 32), (1, .int a), (2, .int b), (3, .int c)]) (st' := [.int 9, .int c]) (w' := (SH, (xj_set S 32 0 0), T)) rfl ?_
                  refine xj_E.calli (d := D1) (S := SH) rfl rfl rfl rfl rfl (xj_E.deep (ok_m_within (d := 0) hd.1 ?_) (by omega))
                  intro w9 f9
                  refine ⟨_, _, _, rfl, rfl, rfl, rfl, ?_⟩
                  have hd := hd.2
                  rw [← f9] at hd
                  have h : ∀ v S9, (v, S9) = ((if (r_m_within (xj_set S 32 0 0) c 9) ≠ 0 then (((xj_set (xj_set (xj_set (xj_set S 32 0 0) 39 ((2 * a) + (S 38 a.toNatClampNeg)).toNatClampNeg b) 40 ((2 * a) + (S 38 a.toNatClampNeg)).toNatClampNeg c) 38 a.toNatClampNeg ((S 38 a.toNatClampNeg) + 1)) 38 a.toNatClampNeg, (xj_set (xj_set (xj_set (xj_set S 32 0 0) 39 ((2 * a) + (S 38 a.toNatClampNeg)).toNatClampNeg b) 40 ((2 * a) + (S 38 a.toNatClampNeg)).toNatClampNeg c) 38 a.toNatClampNeg ((S 38 a.toNatClampNeg) + 1)))) else (match f_m_fail 2 (xj_set S 32 0 0) with | (v12, S12) => (v12, S12))) : Int32 × (Nat → Nat → Int32)) → P (.inl (some (.int v))) (SH, S9, T) 0 0 := h
                  rw [← f9] at h
                  refine xj_E.adv 1 (pc' := (if xj_cmp .ne w9 0 = true then 141 else 135)) (ls' := [(4, .int 1), (0, .ref 32), (1, .int a), (2, .int b), (3, .int c)]) (st' := []) (w' := (SH, (xj_set S 32 0 0), T)) rfl ?_
                  refine xj_E.b_ne (fun q => ?_) (fun q => ?_)
                  · have hd := hd.1 q
                    have h := fun v S9 e => h v S9 (Eq.trans e (if_pos q).symm)
                    refine xj_E.adv 6 (pc' := 149) (ls' := [(4, .int 1), (0, .ref 32), (1, .int a), (2, .int b), (3, .int c)]) (st' := [.int a, .ref 38, .int (2 * a)]) (w' := (SH, (xj_set S 32 0 0), T)) rfl ?_
                    refine xj_E.iald rfl rfl hd.1 ?_
                    have hd := hd.2
                    refine xj_E.adv 6 (pc' := 160) (ls' := [(5, .int ((2 * a) + (S 38 a.toNatClampNeg))), (4, .int 1), (0, .ref 32), (1, .int a), (2, .int b), (3, .int c)]) (st' := [.int b, .int ((2 * a) + (S 38 a.toNatClampNeg)), .ref 39]) (w' := (SH, (xj_set S 32 0 0), T)) rfl ?_
                    refine xj_E.iast rfl rfl hd.1 ?_
                    have hd := hd.2
                    refine xj_E.adv 4 (pc' := 168) (ls' := [(5, .int ((2 * a) + (S 38 a.toNatClampNeg))), (4, .int 1), (0, .ref 32), (1, .int a), (2, .int b), (3, .int c)]) (st' := [.int c, .int ((2 * a) + (S 38 a.toNatClampNeg)), .ref 40]) (w' := (SH, (xj_set (xj_set S 32 0 0) 39 ((2 * a) + (S 38 a.toNatClampNeg)).toNatClampNeg b), T)) rfl ?_
                    refine xj_E.iast rfl rfl hd.1 ?_
                    have hd := hd.2
                    refine xj_E.adv 4 (pc' := 175) (ls' := [(5, .int ((2 * a) + (S 38 a.toNatClampNeg))), (4, .int 1), (0, .ref 32), (1, .int a), (2, .int b), (3, .int c)]) (st' := [.int a, .ref 38, .int a, .ref 38]) (w' := (SH, (xj_set (xj_set (xj_set S 32 0 0) 39 ((2 * a) + (S 38 a.toNatClampNeg)).toNatClampNeg b) 40 ((2 * a) + (S 38 a.toNatClampNeg)).toNatClampNeg c), T)) rfl ?_
                    refine xj_E.iald rfl rfl hd.1 ?_
                    have hd := hd.2
                    refine xj_E.adv 2 (pc' := 178) (ls' := [(5, .int ((2 * a) + (S 38 a.toNatClampNeg))), (4, .int 1), (0, .ref 32), (1, .int a), (2, .int b), (3, .int c)]) (st' := [.int ((S 38 a.toNatClampNeg) + 1), .int a, .ref 38]) (w' := (SH, (xj_set (xj_set (xj_set S 32 0 0) 39 ((2 * a) + (S 38 a.toNatClampNeg)).toNatClampNeg b) 40 ((2 * a) + (S 38 a.toNatClampNeg)).toNatClampNeg c), T)) rfl ?_
                    refine xj_E.iast rfl rfl hd.1 ?_
                    have hd := hd.2
                    refine xj_E.adv 3 (pc' := 184) (ls' := [(5, .int ((2 * a) + (S 38 a.toNatClampNeg))), (4, .int 1), (0, .ref 32), (1, .int a), (2, .int b), (3, .int c)]) (st' := [.int a, .ref 38]) (w' := (SH, (xj_set (xj_set (xj_set (xj_set S 32 0 0) 39 ((2 * a) + (S 38 a.toNatClampNeg)).toNatClampNeg b) 40 ((2 * a) + (S 38 a.toNatClampNeg)).toNatClampNeg c) 38 a.toNatClampNeg ((S 38 a.toNatClampNeg) + 1)), T)) rfl ?_
                    refine xj_E.iald rfl rfl hd.1 ?_
                    have hd := hd.2
                    exact xj_E.ret rfl rfl rfl rfl (h _ _ rfl)
                  · have hd := hd.2 q
                    have h := fun v S9 e => h v S9 (Eq.trans e (if_neg q).symm)
                    refine xj_E.adv 2 (pc' := 137) (ls' := [(4, .int 1), (0, .ref 32), (1, .int a), (2, .int b), (3, .int c)]) (st' := [.int 2, .ref 32]) (w' := (SH, (xj_set S 32 0 0), T)) rfl ?_
                    refine xj_E.calli (d := D1) (S := SH) rfl rfl rfl rfl rfl (ok_m_fail (by omega) hd.1 ?_)
                    intro v12 S12 e12
                    refine ⟨_, _, _, rfl, rfl, rfl, rfl, ?_⟩
                    have hd := hd.2
                    generalize f_m_fail 2 (xj_set S 32 0 0) = Xe12 at e12 hd h
                    subst e12
                    exact xj_E.ret rfl rfl rfl rfl (h _ _ rfl)
        · have hd := hd.2 q
          have h := fun v S9 e => h v S9 (Eq.trans e (if_neg q).symm)
          refine xj_E.adv 2 (pc' := 46) (ls' := [(0, .ref 32), (1, .int a), (2, .int b), (3, .int c)]) (st' := [.int 2, .ref 32]) (w' := (SH, (xj_set S 32 0 0), T)) rfl ?_
          refine xj_E.calli (d := D1) (S := SH) rfl rfl rfl rfl rfl (ok_m_fail (by omega) hd.1 ?_)
          intro v13 S13 e13
          refine ⟨_, _, _, rfl, rfl, rfl, rfl, ?_⟩
          have hd := hd.2
          generalize f_m_fail 2 (xj_set S 32 0 0) = Xe13 at e13 hd h
          subst e13
          exact xj_E.ret rfl rfl rfl rfl (h _ _ rfl)
      · have hd := hd.2 q
        have h := fun v S9 e => h v S9 (Eq.trans e (if_neg q).symm)
        refine xj_E.adv 2 (pc' := 32) (ls' := [(0, .ref 32), (1, .int a), (2, .int b), (3, .int c)]) (st' := [.int 1, .ref 32]) (w' := (SH, (xj_set S 32 0 0), T)) rfl ?_
        refine xj_E.calli (d := D1) (S := SH) rfl rfl rfl rfl rfl (ok_m_fail (by omega) hd.1 ?_)
        intro v14 S14 e14
        refine ⟨_, _, _, rfl, rfl, rfl, rfl, ?_⟩
        have hd := hd.2
        generalize f_m_fail 1 (xj_set S 32 0 0) = Xe14 at e14 hd h
        subst e14
        exact xj_E.ret rfl rfl rfl rfl (h _ _ rfl)
