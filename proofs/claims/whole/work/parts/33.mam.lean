/-! a method that stores: our machine does so -/
set_option maxHeartbeats 4000000 in
set_option maxRecDepth 100000 in
theorem ok_m_item {L : Nat} {xs : Nat → Int32} {T : Nat → Nat → Int64} {D : Nat} {S : (Nat → Nat → Int32)} {P : (Option Value ⊕ Nat) → xj_W → Nat → Nat → Prop} {a b c : Int32} (hD : 1 ≤ D) (hd : d_m_item a b c S) (h : ∀ v S9, (v, S9) = f_m_item a b c S → P (.inl (some (.int v))) (SH, S9, T) 0 0) : xj_E (xX L xs) D 71 0 [(0, .ref 32), (1, .int a), (2, .int b), (3, .int c)] [] (SH, S, T) P := by
  unfold d_m_item at hd
  unfold f_m_item at h
  obtain ⟨D1, rfl⟩ : ∃ D1, D = D1 + 1 := ⟨D - 1, by omega⟩
  refine xj_E.adv 6 (pc' := (if xj_cmp .ne (S 32 15) 0 = true then 21 else 12)) (ls' := [(0, .ref 32), (1, .int a), (2, .int b), (3, .int c)]) (st' := []) (w' := (SH, (xj_set S 32 0 0), T)) rfl ?_
  refine xj_E.b_ne (fun q => ?_) (fun q => ?_)
  · have hd := hd.1 q
    have h := fun v S9 e => h v S9 (Eq.trans e (if_pos q).symm)
    refine xj_E.adv 2 (pc' := 23) (ls' := [(0, .ref 32), (1, .int a), (2, .int b), (3, .int c)]) (st' := [.int 1, .ref 32]) (w' := (SH, (xj_set S 32 0 0), T)) rfl ?_
    refine xj_E.calli (d := D1) (S := SH) rfl rfl rfl rfl rfl (ok_m_fail (by omega) hd.1 ?_)
    intro v1 S1 e1
    refine ⟨_, _, _, rfl, rfl, rfl, rfl, ?_⟩
    have hd := hd.2
    generalize f_m_fail 1 (xj_set S 32 0 0) = Xe1 at e1 hd h
    subst e1
    exact xj_E.ret rfl rfl rfl rfl (h _ _ rfl)
  · have hd := hd.2 q
    have h := fun v S9 e => h v S9 (Eq.trans e (if_neg q).symm)
    refine xj_E.adv 4 (pc' := (if xj_cmp .ne (S 32 1) 12 = true then 27 else 21)) (ls' := [(0, .ref 32), (1, .int a), (2, .int b), (3, .int c)]) (st' := []) (w' := (SH, (xj_set S 32 0 0), T)) rfl ?_
    refine xj_E.b_ne (fun q => ?_) (fun q => ?_)
    · have hd := hd.1 q
      have h := fun v S9 e => h v S9 (Eq.trans e (if_pos q).symm)
      refine xj_E.adv 2 (pc' := 29) (ls' := [(0, .ref 32), (1, .int a), (2, .int b), (3, .int c)]) (st' := [.int 3, .int a]) (w' := (SH, (xj_set S 32 0 0), T)) rfl ?_
      refine xj_E.calli (d := D1) (S := SH) rfl rfl rfl rfl rfl (xj_E.deep (ok_m_within (d := 0) hd.1 ?_) (by omega))
      intro w1 f1
      refine ⟨_, _, _, rfl, rfl, rfl, rfl, ?_⟩
      have hd := hd.2
      rw [← f1] at hd
      have h : ∀ v S9, (v, S9) = ((if (r_m_within (xj_set S 32 0 0) a 3) = 0 then (match f_m_fail 2 (xj_set S 32 0 0) with | (v2, S2) => (v2, S2)) else (if (r_m_within (xj_set S 32 0 0) b ((S 32 1) - 1)) = 0 then (match f_m_fail 2 (xj_set S 32 0 0) with | (v3, S3) => (v3, S3)) else (if (r_m_within (xj_set S 32 0 0) c 15) ≠ 0 then (if (S 33 b.toNatClampNeg) ≠ 0 then (match f_m_fail 2 (xj_set S 32 0 0) with | (v4, S4) => (v4, S4)) else (if c ≤ 7 then ((((S 32 1) + 1) - 1, (xj_set (xj_set (xj_set (xj_set (xj_set S 32 0 0) 33 (S 32 1).toNatClampNeg a) 34 (S 32 1).toNatClampNeg b) 35 (S 32 1).toNatClampNeg c) 32 1 ((S 32 1) + 1)))) else (if a = 0 then ((((S 32 1) + 1) - 1, (xj_set (xj_set (xj_set (xj_set (xj_set S 32 0 0) 33 (S 32 1).toNatClampNeg a) 34 (S 32 1).toNatClampNeg b) 35 (S 32 1).toNatClampNeg c) 32 1 ((S 32 1) + 1)))) else (match f_m_fail 2 (xj_set S 32 0 0) with | (v5, S5) => (v5, S5))))) else (match f_m_fail 2 (xj_set S 32 0 0) with | (v6, S6) => (v6, S6))))) : Int32 × (Nat → Nat → Int32)) → P (.inl (some (.int v))) (SH, S9, T) 0 0 := h
      rw [← f1] at h
      refine xj_E.adv 1 (pc' := (if xj_cmp .eq w1 0 = true then 57 else 35)) (ls' := [(0, .ref 32), (1, .int a), (2, .int b), (3, .int c)]) (st' := []) (w' := (SH, (xj_set S 32 0 0), T)) rfl ?_
      refine xj_E.b_eq (fun q => ?_) (fun q => ?_)
      · have hd := hd.1 q
        have h := fun v S9 e => h v S9 (Eq.trans e (if_pos q).symm)
        refine xj_E.adv 2 (pc' := 59) (ls' := [(0, .ref 32), (1, .int a), (2, .int b), (3, .int c)]) (st' := [.int 2, .ref 32]) (w' := (SH, (xj_set S 32 0 0), T)) rfl ?_
        refine xj_E.calli (d := D1) (S := SH) rfl rfl rfl rfl rfl (ok_m_fail (by omega) hd.1 ?_)
        intro v2 S2 e2
        refine ⟨_, _, _, rfl, rfl, rfl, rfl, ?_⟩
        have hd := hd.2
        generalize f_m_fail 2 (xj_set S 32 0 0) = Xe2 at e2 hd h
        subst e2
        exact xj_E.ret rfl rfl rfl rfl (h _ _ rfl)
      · have hd := hd.2 q
        have h := fun v S9 e => h v S9 (Eq.trans e (if_neg q).symm)
        refine xj_E.adv 5 (pc' := 42) (ls' := [(0, .ref 32), (1, .int a), (2, .int b), (3, .int c)]) (st' := [.int ((S 32 1) - 1), .int b]) (w' := (SH, (xj_set S 32 0 0), T)) rfl ?_
        refine xj_E.calli (d := D1) (S := SH) rfl rfl rfl rfl rfl (xj_E.deep (ok_m_within (d := 0) hd.1 ?_) (by omega))
        intro w2 f2
        refine ⟨_, _, _, rfl, rfl, rfl, rfl, ?_⟩
        have hd := hd.2
        rw [← f2] at hd
        have h : ∀ v S9, (v, S9) = ((if (r_m_within (xj_set S 32 0 0) b ((S 32 1) - 1)) = 0 then (match f_m_fail 2 (xj_set S 32 0 0) with | (v3, S3) => (v3, S3)) else (if (r_m_within (xj_set S 32 0 0) c 15) ≠ 0 then (if (S 33 b.toNatClampNeg) ≠ 0 then (match f_m_fail 2 (xj_set S 32 0 0) with | (v4, S4) => (v4, S4)) else (if c ≤ 7 then ((((S 32 1) + 1) - 1, (xj_set (xj_set (xj_set (xj_set (xj_set S 32 0 0) 33 (S 32 1).toNatClampNeg a) 34 (S 32 1).toNatClampNeg b) 35 (S 32 1).toNatClampNeg c) 32 1 ((S 32 1) + 1)))) else (if a = 0 then ((((S 32 1) + 1) - 1, (xj_set (xj_set (xj_set (xj_set (xj_set S 32 0 0) 33 (S 32 1).toNatClampNeg a) 34 (S 32 1).toNatClampNeg b) 35 (S 32 1).toNatClampNeg c) 32 1 ((S 32 1) + 1)))) else (match f_m_fail 2 (xj_set S 32 0 0) with | (v5, S5) => (v5, S5))))) else (match f_m_fail 2 (xj_set S 32 0 0) with | (v6, S6) => (v6, S6)))) : Int32 × (Nat → Nat → Int32)) → P (.inl (some (.int v))) (SH, S9, T) 0 0 := h
        rw [← f2] at h
        refine xj_E.adv 1 (pc' := (if xj_cmp .eq w2 0 = true then 57 else 48)) (ls' := [(0, .ref 32), (1, .int a), (2, .int b), (3, .int c)]) (st' := []) (w' := (SH, (xj_set S 32 0 0), T)) rfl ?_
        refine xj_E.b_eq (fun q => ?_) (fun q => ?_)
        · have hd := hd.1 q
          have h := fun v S9 e => h v S9 (Eq.trans e (if_pos q).symm)
          refine xj_E.adv 2 (pc' := 59) (ls' := [(0, .ref 32), (1, .int a), (2, .int b), (3, .int c)]) (st' := [.int 2, .ref 32]) (w' := (SH, (xj_set S 32 0 0), T)) rfl ?_
          refine xj_E.calli (d := D1) (S := SH) rfl rfl rfl rfl rfl (ok_m_fail (by omega) hd.1 ?_)
          intro v3 S3 e3
          refine ⟨_, _, _, rfl, rfl, rfl, rfl, ?_⟩
          have hd := hd.2
          generalize f_m_fail 2 (xj_set S 32 0 0) = Xe3 at e3 hd h
          subst e3
          exact xj_E.ret rfl rfl rfl rfl (h _ _ rfl)
        · have hd := hd.2 q
          have h := fun v S9 e => h v S9 (Eq.trans e (if_neg q).symm)
          refine xj_E.adv 2 (pc' := 51) (ls' := [(0, .ref 32), (1, .int a), (2, .int b), (3, .int c)]) (st' := [.int 15, .int c]) (w' := (SH, (xj_set S 32 0 0), T)) rfl ?_
          refine xj_E.calli (d := D1) (S := SH) rfl rfl rfl rfl rfl (xj_E.deep (ok_m_within (d := 0) hd.1 ?_) (by omega))
          intro w3 f3
          refine ⟨_, _, _, rfl, rfl, rfl, rfl, ?_⟩
          have hd := hd.2
          rw [← f3] at hd
          have h : ∀ v S9, (v, S9) = ((if (r_m_within (xj_set S 32 0 0) c 15) ≠ 0 then (if (S 33 b.toNatClampNeg) ≠ 0 then (match f_m_fail 2 (xj_set S 32 0 0) with | (v4, S4) => (v4, S4)) else (if c ≤ 7 then ((((S 32 1) + 1) - 1, (xj_set (xj_set (xj_set (xj_set (xj_set S 32 0 0) 33 (S 32 1).toNatClampNeg a) 34 (S 32 1).toNatClampNeg b) 35 (S 32 1).toNatClampNeg c) 32 1 ((S 32 1) + 1)))) else (if a = 0 then ((((S 32 1) + 1) - 1, (xj_set (xj_set (xj_set (xj_set (xj_set S 32 0 0) 33 (S 32 1).toNatClampNeg a) 34 (S 32 1).toNatClampNeg b) 35 (S 32 1).toNatClampNeg c) 32 1 ((S 32 1) + 1)))) else (match f_m_fail 2 (xj_set S 32 0 0) with | (v5, S5) => (v5, S5))))) else (match f_m_fail 2 (xj_set S 32 0 0) with | (v6, S6) => (v6, S6))) : Int32 × (Nat → Nat → Int32)) → P (.inl (some (.int v))) (SH, S9, T) 0 0 := h
          rw [← f3] at h
          refine xj_E.adv 1 (pc' := (if xj_cmp .ne w3 0 = true then 63 else 57)) (ls' := [(0, .ref 32), (1, .int a), (2, .int b), (3, .int c)]) (st' := []) (w' := (SH, (xj_set S 32 0 0), T)) rfl ?_
          refine xj_E.b_ne (fun q => ?_) (fun q => ?_)
          · have hd := hd.1 q
            have h := fun v S9 e => h v S9 (Eq.trans e (if_pos q).symm)
            refine xj_E.adv 3 (pc' := 68) (ls' := [(0, .ref 32), (1, .int a), (2, .int b), (3, .int c)]) (st' := [.int b, .ref 33]) (w' := (SH, (xj_set S 32 0 0), T)) rfl ?_
            refine xj_E.iald rfl rfl hd.1 ?_
            have hd := hd.2
            refine xj_E.adv 1 (pc' := (if xj_cmp .ne (S 33 b.toNatClampNeg) 0 = true then 82 else 72)) (ls' := [(0, .ref 32), (1, .int a), (2, .int b), (3, .int c)]) (st' := []) (w' := (SH, (xj_set S 32 0 0), T)) rfl ?_
            refine xj_E.b_ne (fun q => ?_) (fun q => ?_)
            · have hd := hd.1 q
              have h := fun v S9 e => h v S9 (Eq.trans e (if_pos q).symm)
              refine xj_E.adv 2 (pc' := 84) (ls' := [(0, .ref 32), (1, .int a), (2, .int b), (3, .int c)]) (st' := [.int 2, .ref 32]) (w' := (SH, (xj_set S 32 0 0), T)) rfl ?_
              refine xj_E.calli (d := D1) (S := SH) rfl rfl rfl rfl rfl (ok_m_fail (by omega) hd.1 ?_)
              intro v4 S4 e4
              refine ⟨_, _, _, rfl, rfl, rfl, rfl, ?_⟩
              have hd := hd.2
              generalize f_m_fail 2 (xj_set S 32 0 0) = Xe4 at e4 hd h
              subst e4
              exact xj_E.ret rfl rfl rfl rfl (h _ _ rfl)
            · have hd := hd.2 q
              have h := fun v S9 e => h v S9 (Eq.trans e (if_neg q).symm)
              refine xj_E.adv 3 (pc' := (if xj_cmp .le c 7 = true then 88 else 78)) (ls' := [(0, .ref 32), (1, .int a), (2, .int b), (3, .int c)]) (st' := []) (w' := (SH, (xj_set S 32 0 0), T)) rfl ?_
              refine xj_E.b_le (fun q => ?_) (fun q => ?_)
              · have hd := hd.1 q
                have h := fun v S9 e => h v S9 (Eq.trans e (if_pos q).symm)
                refine xj_E.adv 5 (pc' := 97) (ls' := [(0, .ref 32), (1, .int a), (2, .int b), (3, .int c)]) (st' := [.int a, .int (S 32 1), .ref 33]) (w' := (SH, (xj_set S 32 0 0), T)) rfl ?_
                refine xj_E.iast rfl rfl hd.1 ?_
                have hd := hd.2
                refine xj_E.adv 5 (pc' := 107) (ls' := [(0, .ref 32), (1, .int a), (2, .int b), (3, .int c)]) (st' := [.int b, .int (S 32 1), .ref 34]) (w' := (SH, (xj_set (xj_set S 32 0 0) 33 (S 32 1).toNatClampNeg a), T)) rfl ?_
                refine xj_E.iast rfl rfl hd.1 ?_
                have hd := hd.2
                refine xj_E.adv 5 (pc' := 117) (ls' := [(0, .ref 32), (1, .int a), (2, .int b), (3, .int c)]) (st' := [.int c, .int (S 32 1), .ref 35]) (w' := (SH, (xj_set (xj_set (xj_set S 32 0 0) 33 (S 32 1).toNatClampNeg a) 34 (S 32 1).toNatClampNeg b), T)) rfl ?_
                refine xj_E.iast rfl rfl hd.1 ?_
                have hd := hd.2
                refine xj_E.adv 10 (pc' := 134) (ls' := [(0, .ref 32), (1, .int a), (2, .int b), (3, .int c)]) (st' := [.int (((S 32 1) + 1) - 1)]) (w' := (SH, (xj_set (xj_set (xj_set (xj_set (xj_set S 32 0 0) 33 (S 32 1).toNatClampNeg a) 34 (S 32 1).toNatClampNeg b) 35 (S 32 1).toNatClampNeg c) 32 1 ((S 32 1) + 1)), T)) rfl ?_
                exact xj_E.ret rfl rfl rfl rfl (h _ _ rfl)
              · have hd := hd.2 q
                have h := fun v S9 e => h v S9 (Eq.trans e (if_neg q).symm)
                refine xj_E.adv 2 (pc' := (if xj_cmp .eq a 0 = true then 88 else 82)) (ls' := [(0, .ref 32), (1, .int a), (2, .int b), (3, .int c)]) (st' := []) (w' := (SH, (xj_set S 32 0 0), T)) rfl ?_
                refine xj_E.b_eq (fun q => ?_) (fun q => ?_)
                · have hd := hd.1 q
                  have h := fun v S9 e => h v S9 (Eq.trans e (if_pos q).symm)
                  refine xj_E.adv 5 (pc' := 97) (ls' := [(0, .ref 32), (1, .int a), (2, .int b), (3, .int c)]) (st' := [.int a, .int (S 32 1), .ref 33]) (w' := (SH, (xj_set S 32 0 0), T)) rfl ?_
                  refine xj_E.iast rfl rfl hd.1 ?_
                  have hd := hd.2
                  refine xj_E.adv 5 (pc' := 107) (ls' := [(0, .ref 32), (1, .int a), (2, .int b), (3, .int c)]) (st' := [.int b, .int (S 32 1), .ref 34]) (w' := (SH, (xj_set (xj_set S 32 0 0) 33 (S 32 1).toNatClampNeg a), T)) rfl ?_
                  refine xj_E.iast rfl rfl hd.1 ?_
                  have hd := hd.2
                  refine xj_E.adv 5 (pc' := 117) (ls' := [(0, .ref 32), (1, .int a), (2, .int b), (3, .int c)]) (st' := [.int c, .int (S 32 1), .ref 35]) (w' := (SH, (xj_set (xj_set (xj_set S 32 0 0) 33 (S 32 1).toNatClampNeg a) 34 (S 32 1).toNatClampNeg b), T)) rfl ?_
                  refine xj_E.iast rfl rfl hd.1 ?_
                  have hd := hd.2
                  refine xj_E.adv 10 (pc' := 134) (ls' := [(0, .ref 32), (1, .int a), (2, .int b), (3, .int c)]) (st' := [.int (((S 32 1) + 1) - 1)]) (w' := (SH, (xj_set (xj_set (xj_set (xj_set (xj_set S 32 0 0) 33 (S 32 1).toNatClampNeg a) 34 (S 32 1).toNatClampNeg b) 35 (S 32 1).toNatClampNeg c) 32 1 ((S 32 1) + 1)), T)) rfl ?_
                  exact xj_E.ret rfl rfl rfl rfl (h _ _ rfl)
                · have hd := hd.2 q
                  have h := fun v S9 e => h v S9 (Eq.trans e (if_neg q).symm)
                  refine xj_E.adv 2 (pc' := 84) (ls' := [(0, .ref 32), (1, .int a), (2, .int b), (3, .int c)]) (st' := [.int 2, .ref 32]) (w' := (SH, (xj_set S 32 0 0), T)) rfl ?_
                  refine xj_E.calli (d := D1) (S := SH) rfl rfl rfl rfl rfl (ok_m_fail (by omega) hd.1 ?_)
                  intro v5 S5 e5
                  refine ⟨_, _, _, rfl, rfl, rfl, rfl, ?_⟩
                  have hd := hd.2
                  generalize f_m_fail 2 (xj_set S 32 0 0) = Xe5 at e5 hd h
                  subst e5
                  exact xj_E.ret rfl rfl rfl rfl (h _ _ rfl)
          · have hd := hd.2 q
            have h := fun v S9 e => h v S9 (Eq.trans e (if_neg q).symm)
            refine xj_E.adv 2 (pc' := 59) (ls' := [(0, .ref 32), (1, .int a), (2, .int b), (3, .int c)]) (st' := [.int 2, .ref 32]) (w' := (SH, (xj_set S 32 0 0), T)) rfl ?_
            refine xj_E.calli (d := D1) (S := SH) rfl rfl rfl rfl rfl (ok_m_fail (by omega) hd.1 ?_)
            intro v6 S6 e6
            refine ⟨_, _, _, rfl, rfl, rfl, rfl, ?_⟩
            have hd := hd.2
            generalize f_m_fail 2 (xj_set S 32 0 0) = Xe6 at e6 hd h
            subst e6
            exact xj_E.ret rfl rfl rfl rfl (h _ _ rfl)
    · have hd := hd.2 q
      have h := fun v S9 e => h v S9 (Eq.trans e (if_neg q).symm)
      refine xj_E.adv 2 (pc' := 23) (ls' := [(0, .ref 32), (1, .int a), (2, .int b), (3, .int c)]) (st' := [.int 1, .ref 32]) (w' := (SH, (xj_set S 32 0 0), T)) rfl ?_
      refine xj_E.calli (d := D1) (S := SH) rfl rfl rfl rfl rfl (ok_m_fail (by omega) hd.1 ?_)
      intro v7 S7 e7
      refine ⟨_, _, _, rfl, rfl, rfl, rfl, ?_⟩
      have hd := hd.2
      generalize f_m_fail 1 (xj_set S 32 0 0) = Xe7 at e7 hd h
      subst e7
      exact xj_E.ret rfl rfl rfl rfl (h _ _ rfl)
