/-! a method that stores: our machine does so -/
set_option maxHeartbeats 4000000 in
set_option maxRecDepth 100000 in
theorem ok_m_enter {L : Nat} {xs : Nat → Int32} {T : Nat → Nat → Int64} {D : Nat} {S : (Nat → Nat → Int32)} {P : (Option Value ⊕ Nat) → xj_W → Nat → Nat → Prop} {a b : Int32} (hD : 4 ≤ D) (hd : d_m_enter a b S) (h : ∀ v S9, (v, S9) = f_m_enter a b S → P (.inl none) (SH, S9, T) 0 0) : xj_E (xX L xs) D 85 0 [(0, .ref 32), (1, .int a), (2, .int b)] [] (SH, S, T) P := by
  unfold d_m_enter at hd
  unfold f_m_enter at h
  obtain ⟨D1, rfl⟩ : ∃ D1, D = D1 + 1 := ⟨D - 1, by omega⟩
  refine xj_E.adv 3 (pc' := 3) (ls' := [(0, .ref 32), (1, .int a), (2, .int b)]) (st' := [.int b, .int a, .ref 32]) (w' := (SH, S, T)) rfl ?_
  refine xj_E.calli (d := D1) (S := SH) rfl rfl rfl rfl rfl (ok_m_book (by omega) hd.1 ?_)
  intro v1 S1 e1
  refine ⟨_, _, _, rfl, rfl, rfl, rfl, ?_⟩
  have hd := hd.2
  generalize f_m_book a b S = Xe1 at e1 hd h
  subst e1
  have h : ∀ v S9, (v, S9) = ((if v1 ≠ 0 then (match f_m_mark a b (xj_set S1 47 a.toNatClampNeg (r_m_target S1 b)) with | (_, S2) => if (r_m_kindOf S2 a) ≠ 0 then (match f_m_again a b S2 with | (_, S3) => (0, S3)) else (if b ≠ 2 then (if b = 4 then ((0, (xj_set (xj_set (xj_set (xj_set S2 61 (S2 32 39).toNatClampNeg a) 62 (S2 32 39).toNatClampNeg b) 63 (S2 32 39).toNatClampNeg 0) 32 39 ((S2 32 39) + 1)))) else (if b = 9 then ((0, (xj_set (xj_set (xj_set (xj_set S2 61 (S2 32 39).toNatClampNeg a) 62 (S2 32 39).toNatClampNeg b) 63 (S2 32 39).toNatClampNeg 0) 32 39 ((S2 32 39) + 1)))) else (if b = 5 then ((0, (xj_set (xj_set (xj_set (xj_set S2 61 (S2 32 39).toNatClampNeg a) 62 (S2 32 39).toNatClampNeg b) 63 (S2 32 39).toNatClampNeg 0) 32 39 ((S2 32 39) + 1)))) else (if b ≠ 6 then (match f_m_again a b S2 with | (_, S4) => (0, S4)) else ((0, (xj_set (xj_set (xj_set (xj_set S2 61 (S2 32 39).toNatClampNeg a) 62 (S2 32 39).toNatClampNeg b) 63 (S2 32 39).toNatClampNeg 0) 32 39 ((S2 32 39) + 1)))))))) else (fk_m_enter 200 a b 1 1 S2))) else ((0, S1))) : Int32 × (Nat → Nat → Int32)) → P (.inl none) (SH, S9, T) 0 0 := h
  refine xj_E.adv 1 (pc' := (if xj_cmp .ne v1 0 = true then 10 else 9)) (ls' := [(0, .ref 32), (1, .int a), (2, .int b)]) (st' := []) (w' := (SH, S1, T)) rfl ?_
  refine xj_E.b_ne (fun q => ?_) (fun q => ?_)
  · have hd := hd.1 q
    have h := fun v S9 e => h v S9 (Eq.trans e (if_pos q).symm)
    refine xj_E.adv 4 (pc' := 16) (ls' := [(0, .ref 32), (1, .int a), (2, .int b)]) (st' := [.int b, .int a, .ref 47]) (w' := (SH, S1, T)) rfl ?_
    refine xj_E.calli (d := D1) (S := SH) rfl rfl rfl rfl rfl (xj_E.deep (ok_m_target (d := 0) hd.1 ?_) (by omega))
    intro w1 f1
    refine ⟨_, _, _, rfl, rfl, rfl, rfl, ?_⟩
    have hd := hd.2
    rw [← f1] at hd
    have h : ∀ v S9, (v, S9) = ((match f_m_mark a b (xj_set S1 47 a.toNatClampNeg (r_m_target S1 b)) with | (_, S2) => if (r_m_kindOf S2 a) ≠ 0 then (match f_m_again a b S2 with | (_, S3) => (0, S3)) else (if b ≠ 2 then (if b = 4 then ((0, (xj_set (xj_set (xj_set (xj_set S2 61 (S2 32 39).toNatClampNeg a) 62 (S2 32 39).toNatClampNeg b) 63 (S2 32 39).toNatClampNeg 0) 32 39 ((S2 32 39) + 1)))) else (if b = 9 then ((0, (xj_set (xj_set (xj_set (xj_set S2 61 (S2 32 39).toNatClampNeg a) 62 (S2 32 39).toNatClampNeg b) 63 (S2 32 39).toNatClampNeg 0) 32 39 ((S2 32 39) + 1)))) else (if b = 5 then ((0, (xj_set (xj_set (xj_set (xj_set S2 61 (S2 32 39).toNatClampNeg a) 62 (S2 32 39).toNatClampNeg b) 63 (S2 32 39).toNatClampNeg 0) 32 39 ((S2 32 39) + 1)))) else (if b ≠ 6 then (match f_m_again a b S2 with | (_, S4) => (0, S4)) else ((0, (xj_set (xj_set (xj_set (xj_set S2 61 (S2 32 39).toNatClampNeg a) 62 (S2 32 39).toNatClampNeg b) 63 (S2 32 39).toNatClampNeg 0) 32 39 ((S2 32 39) + 1)))))))) else (fk_m_enter 200 a b 1 1 S2))) : Int32 × (Nat → Nat → Int32)) → P (.inl none) (SH, S9, T) 0 0 := h
    rw [← f1] at h
    refine xj_E.iast rfl rfl hd.1 ?_
    have hd := hd.2
    refine xj_E.adv 3 (pc' := 23) (ls' := [(0, .ref 32), (1, .int a), (2, .int b)]) (st' := [.int b, .int a, .ref 32]) (w' := (SH, (xj_set S1 47 a.toNatClampNeg w1), T)) rfl ?_
    refine xj_E.callv (d := D1) (S := SH) rfl rfl rfl rfl rfl (ok_m_mark (by omega) hd.1 ?_)
    intro v2 S2 e2
    refine ⟨_, _, rfl, rfl, rfl, rfl, ?_⟩
    have hd := hd.2
    generalize f_m_mark a b (xj_set S1 47 a.toNatClampNeg w1) = Xe2 at e2 hd h
    subst e2
    have h : ∀ v S9, (v, S9) = ((if (r_m_kindOf S2 a) ≠ 0 then (match f_m_again a b S2 with | (_, S3) => (0, S3)) else (if b ≠ 2 then (if b = 4 then ((0, (xj_set (xj_set (xj_set (xj_set S2 61 (S2 32 39).toNatClampNeg a) 62 (S2 32 39).toNatClampNeg b) 63 (S2 32 39).toNatClampNeg 0) 32 39 ((S2 32 39) + 1)))) else (if b = 9 then ((0, (xj_set (xj_set (xj_set (xj_set S2 61 (S2 32 39).toNatClampNeg a) 62 (S2 32 39).toNatClampNeg b) 63 (S2 32 39).toNatClampNeg 0) 32 39 ((S2 32 39) + 1)))) else (if b = 5 then ((0, (xj_set (xj_set (xj_set (xj_set S2 61 (S2 32 39).toNatClampNeg a) 62 (S2 32 39).toNatClampNeg b) 63 (S2 32 39).toNatClampNeg 0) 32 39 ((S2 32 39) + 1)))) else (if b ≠ 6 then (match f_m_again a b S2 with | (_, S4) => (0, S4)) else ((0, (xj_set (xj_set (xj_set (xj_set S2 61 (S2 32 39).toNatClampNeg a) 62 (S2 32 39).toNatClampNeg b) 63 (S2 32 39).toNatClampNeg 0) 32 39 ((S2 32 39) + 1)))))))) else (fk_m_enter 200 a b 1 1 S2))) : Int32 × (Nat → Nat → Int32)) → P (.inl none) (SH, S9, T) 0 0 := h
    refine xj_E.adv 2 (pc' := 28) (ls' := [(0, .ref 32), (1, .int a), (2, .int b)]) (st' := [.int a, .ref 32]) (w' := (SH, S2, T)) rfl ?_
    refine xj_E.calli (d := D1) (S := SH) rfl rfl rfl rfl rfl (xj_E.deep (ok_m_kindOf (d := 0) hd.1 ?_) (by omega))
    intro w2 f2
    refine ⟨_, _, _, rfl, rfl, rfl, rfl, ?_⟩
    have hd := hd.2
    rw [← f2] at hd
    have h : ∀ v S9, (v, S9) = ((if (r_m_kindOf S2 a) ≠ 0 then (match f_m_again a b S2 with | (_, S3) => (0, S3)) else (if b ≠ 2 then (if b = 4 then ((0, (xj_set (xj_set (xj_set (xj_set S2 61 (S2 32 39).toNatClampNeg a) 62 (S2 32 39).toNatClampNeg b) 63 (S2 32 39).toNatClampNeg 0) 32 39 ((S2 32 39) + 1)))) else (if b = 9 then ((0, (xj_set (xj_set (xj_set (xj_set S2 61 (S2 32 39).toNatClampNeg a) 62 (S2 32 39).toNatClampNeg b) 63 (S2 32 39).toNatClampNeg 0) 32 39 ((S2 32 39) + 1)))) else (if b = 5 then ((0, (xj_set (xj_set (xj_set (xj_set S2 61 (S2 32 39).toNatClampNeg a) 62 (S2 32 39).toNatClampNeg b) 63 (S2 32 39).toNatClampNeg 0) 32 39 ((S2 32 39) + 1)))) else (if b ≠ 6 then (match f_m_again a b S2 with | (_, S4) => (0, S4)) else ((0, (xj_set (xj_set (xj_set (xj_set S2 61 (S2 32 39).toNatClampNeg a) 62 (S2 32 39).toNatClampNeg b) 63 (S2 32 39).toNatClampNeg 0) 32 39 ((S2 32 39) + 1)))))))) else (fk_m_enter 200 a b 1 1 S2))) : Int32 × (Nat → Nat → Int32)) → P (.inl none) (SH, S9, T) 0 0 := h
    rw [← f2] at h
    refine xj_E.adv 1 (pc' := (if xj_cmp .ne w2 0 = true then 38 else 34)) (ls' := [(0, .ref 32), (1, .int a), (2, .int b)]) (st' := []) (w' := (SH, S2, T)) rfl ?_
    refine xj_E.b_ne (fun q => ?_) (fun q => ?_)
    · have hd := hd.1 q
      have h := fun v S9 e => h v S9 (Eq.trans e (if_pos q).symm)
      refine xj_E.adv 9 (pc' := 162) (ls' := [(3, .int 0), (0, .ref 32), (1, .int a), (2, .int b)]) (st' := [.int b, .int a, .ref 32]) (w' := (SH, S2, T)) rfl ?_
      refine xj_E.callv (d := D1) (S := SH) rfl rfl rfl rfl rfl (ok_m_again (by omega) hd.1 ?_)
      intro v3 S3 e3
      refine ⟨_, _, rfl, rfl, rfl, rfl, ?_⟩
      have hd := hd.2
      generalize f_m_again a b S2 = Xe3 at e3 hd h
      subst e3
      exact xj_E.ret rfl rfl rfl rfl (h _ _ rfl)
    · have hd := hd.2 q
      have h := fun v S9 e => h v S9 (Eq.trans e (if_neg q).symm)
      refine xj_E.adv 8 (pc' := (if xj_cmp .ne b 2 = true then 90 else 49)) (ls' := [(3, .int 1), (0, .ref 32), (1, .int a), (2, .int b)]) (st' := []) (w' := (SH, S2, T)) rfl ?_
      refine xj_E.b_ne (fun q => ?_) (fun q => ?_)
      · have hd := hd.1 q
        have h := fun v S9 e => h v S9 (Eq.trans e (if_pos q).symm)
        refine xj_E.adv 5 (pc' := (if xj_cmp .eq b 4 = true then 116 else 99)) (ls' := [(3, .int 1), (0, .ref 32), (1, .int a), (2, .int b)]) (st' := []) (w' := (SH, S2, T)) rfl ?_
        refine xj_E.b_eq (fun q => ?_) (fun q => ?_)
        · have hd := hd.1 q
          have h := fun v S9 e => h v S9 (Eq.trans e (if_pos q).symm)
          refine xj_E.adv 5 (pc' := 125) (ls' := [(3, .int 1), (0, .ref 32), (1, .int a), (2, .int b)]) (st' := [.int a, .int (S2 32 39), .ref 61]) (w' := (SH, S2, T)) rfl ?_
          refine xj_E.iast rfl rfl hd.1 ?_
          have hd := hd.2
          refine xj_E.adv 5 (pc' := 135) (ls' := [(3, .int 1), (0, .ref 32), (1, .int a), (2, .int b)]) (st' := [.int b, .int (S2 32 39), .ref 62]) (w' := (SH, (xj_set S2 61 (S2 32 39).toNatClampNeg a), T)) rfl ?_
          refine xj_E.iast rfl rfl hd.1 ?_
          have hd := hd.2
          refine xj_E.adv 5 (pc' := 145) (ls' := [(3, .int 1), (0, .ref 32), (1, .int a), (2, .int b)]) (st' := [.int 0, .int (S2 32 39), .ref 63]) (w' := (SH, (xj_set (xj_set S2 61 (S2 32 39).toNatClampNeg a) 62 (S2 32 39).toNatClampNeg b), T)) rfl ?_
          refine xj_E.iast rfl rfl hd.1 ?_
          have hd := hd.2
          refine xj_E.adv 7 (pc' := 165) (ls' := [(3, .int 1), (0, .ref 32), (1, .int a), (2, .int b)]) (st' := []) (w' := (SH, (xj_set (xj_set (xj_set (xj_set S2 61 (S2 32 39).toNatClampNeg a) 62 (S2 32 39).toNatClampNeg b) 63 (S2 32 39).toNatClampNeg 0) 32 39 ((S2 32 39) + 1)), T)) rfl ?_
          exact xj_E.ret rfl rfl rfl rfl (h _ _ rfl)
        · have hd := hd.2 q
          have h := fun v S9 e => h v S9 (Eq.trans e (if_neg q).symm)
          refine xj_E.adv 3 (pc' := (if xj_cmp .eq b 9 = true then 116 else 105)) (ls' := [(3, .int 1), (0, .ref 32), (1, .int a), (2, .int b)]) (st' := []) (w' := (SH, S2, T)) rfl ?_
          refine xj_E.b_eq (fun q => ?_) (fun q => ?_)
          · have hd := hd.1 q
            have h := fun v S9 e => h v S9 (Eq.trans e (if_pos q).symm)
            refine xj_E.adv 5 (pc' := 125) (ls' := [(3, .int 1), (0, .ref 32), (1, .int a), (2, .int b)]) (st' := [.int a, .int (S2 32 39), .ref 61]) (w' := (SH, S2, T)) rfl ?_
            refine xj_E.iast rfl rfl hd.1 ?_
            have hd := hd.2
            refine xj_E.adv 5 (pc' := 135) (ls' := [(3, .int 1), (0, .ref 32), (1, .int a), (2, .int b)]) (st' := [.int b, .int (S2 32 39), .ref 62]) (w' := (SH, (xj_set S2 61 (S2 32 39).toNatClampNeg a), T)) rfl ?_
            refine xj_E.iast rfl rfl hd.1 ?_
            have hd := hd.2
            refine xj_E.adv 5 (pc' := 145) (ls' := [(3, .int 1), (0, .ref 32), (1, .int a), (2, .int b)]) (st' := [.int 0, .int (S2 32 39), .ref 63]) (w' := (SH, (xj_set (xj_set S2 61 (S2 32 39).toNatClampNeg a) 62 (S2 32 39).toNatClampNeg b), T)) rfl ?_
            refine xj_E.iast rfl rfl hd.1 ?_
            have hd := hd.2
            refine xj_E.adv 7 (pc' := 165) (ls' := [(3, .int 1), (0, .ref 32), (1, .int a), (2, .int b)]) (st' := []) (w' := (SH, (xj_set (xj_set (xj_set (xj_set S2 61 (S2 32 39).toNatClampNeg a) 62 (S2 32 39).toNatClampNeg b) 63 (S2 32 39).toNatClampNeg 0) 32 39 ((S2 32 39) + 1)), T)) rfl ?_
            exact xj_E.ret rfl rfl rfl rfl (h _ _ rfl)
          · have hd := hd.2 q
            have h := fun v S9 e => h v S9 (Eq.trans e (if_neg q).symm)
            refine xj_E.adv 3 (pc' := (if xj_cmp .eq b 5 = true then 116 else 110)) (ls' := [(3, .int 1), (0, .ref 32), (1, .int a), (2, .int b)]) (st' := []) (w' := (SH, S2, T)) rfl ?_
            refine xj_E.b_eq (fun q => ?_) (fun q => ?_)
            · have hd := hd.1 q
              have h := fun v S9 e => h v S9 (Eq.trans e (if_pos q).symm)
              refine xj_E.adv 5 (pc' := 125) (ls' := [(3, .int 1), (0, .ref 32), (1, .int a), (2, .int b)]) (st' := [.int a, .int (S2 32 39), .ref 61]) (w' := (SH, S2, T)) rfl ?_
              refine xj_E.iast rfl rfl hd.1 ?_
              have hd := hd.2
              refine xj_E.adv 5 (pc' := 135) (ls' := [(3, .int 1), (0, .ref 32), (1, .int a), (2, .int b)]) (st' := [.int b, .int (S2 32 39), .ref 62]) (w' := (SH, (xj_set S2 61 (S2 32 39).toNatClampNeg a), T)) rfl ?_
              refine xj_E.iast rfl rfl hd.1 ?_
              have hd := hd.2
              refine xj_E.adv 5 (pc' := 145) (ls' := [(3, .int 1), (0, .ref 32), (1, .int a), (2, .int b)]) (st' := [.int 0, .int (S2 32 39), .ref 63]) (w' := (SH, (xj_set (xj_set S2 61 (S2 32 39).toNatClampNeg a) 62 (S2 32 39).toNatClampNeg b), T)) rfl ?_
              refine xj_E.iast rfl rfl hd.1 ?_
              have hd := hd.2
              refine xj_E.adv 7 (pc' := 165) (ls' := [(3, .int 1), (0, .ref 32), (1, .int a), (2, .int b)]) (st' := []) (w' := (SH, (xj_set (xj_set (xj_set (xj_set S2 61 (S2 32 39).toNatClampNeg a) 62 (S2 32 39).toNatClampNeg b) 63 (S2 32 39).toNatClampNeg 0) 32 39 ((S2 32 39) + 1)), T)) rfl ?_
              exact xj_E.ret rfl rfl rfl rfl (h _ _ rfl)
            · have hd := hd.2 q
              have h := fun v S9 e => h v S9 (Eq.trans e (if_neg q).symm)
              refine xj_E.adv 3 (pc' := (if xj_cmp .ne b 6 = true then 159 else 116)) (ls' := [(3, .int 1), (0, .ref 32), (1, .int a), (2, .int b)]) (st' := []) (w' := (SH, S2, T)) rfl ?_
              refine xj_E.b_ne (fun q => ?_) (fun q => ?_)
              · have hd := hd.1 q
                have h := fun v S9 e => h v S9 (Eq.trans e (if_pos q).symm)
                refine xj_E.adv 3 (pc' := 162) (ls' := [(3, .int 1), (0, .ref 32), (1, .int a), (2, .int b)]) (st' := [.int b, .int a, .ref 32]) (w' := (SH, S2, T)) rfl ?_
                refine xj_E.callv (d := D1) (S := SH) rfl rfl rfl rfl rfl (ok_m_again (by omega) hd.1 ?_)
                intro v4 S4 e4
                refine ⟨_, _, rfl, rfl, rfl, rfl, ?_⟩
                have hd := hd.2
                generalize f_m_again a b S2 = Xe4 at e4 hd h
                subst e4
                exact xj_E.ret rfl rfl rfl rfl (h _ _ rfl)
              · have hd := hd.2 q
                have h := fun v S9 e => h v S9 (Eq.trans e (if_neg q).symm)
                refine xj_E.adv 5 (pc' := 125) (ls' := [(3, .int 1), (0, .ref 32), (1, .int a), (2, .int b)]) (st' := [.int a, .int (S2 32 39), .ref 61]) (w' := (SH, S2, T)) rfl ?_
                refine xj_E.iast rfl rfl hd.1 ?_
                have hd := hd.2
                refine xj_E.adv 5 (pc' := 135) (ls' := [(3, .int 1), (0, .ref 32), (1, .int a), (2, .int b)]) (st' := [.int b, .int (S2 32 39), .ref 62]) (w' := (SH, (xj_set S2 61 (S2 32 39).toNatClampNeg a), T)) rfl ?_
                refine xj_E.iast rfl rfl hd.1 ?_
                have hd := hd.2
                refine xj_E.adv 5 (pc' := 145) (ls' := [(3, .int 1), (0, .ref 32), (1, .int a), (2, .int b)]) (st' := [.int 0, .int (S2 32 39), .ref 63]) (w' := (SH, (xj_set (xj_set S2 61 (S2 32 39).toNatClampNeg a) 62 (S2 32 39).toNatClampNeg b), T)) rfl ?_
                refine xj_E.iast rfl rfl hd.1 ?_
                have hd := hd.2
                refine xj_E.adv 7 (pc' := 165) (ls' := [(3, .int 1), (0, .ref 32), (1, .int a), (2, .int b)]) (st' := []) (w' := (SH, (xj_set (xj_set (xj_set (xj_set S2 61 (S2 32 39).toNatClampNeg a) 62 (S2 32 39).toNatClampNeg b) 63 (S2 32 39).toNatClampNeg 0) 32 39 ((S2 32 39) + 1)), T)) rfl ?_
                exact xj_E.ret rfl rfl rfl rfl (h _ _ rfl)
      · have hd := hd.2 q
        have h := fun v S9 e => h v S9 (Eq.trans e (if_neg q).symm)
        refine xj_E.adv 2 (pc' := 52) (ls' := [(4, .int 1), (3, .int 1), (0, .ref 32), (1, .int a), (2, .int b)]) (st' := []) (w' := (SH, S2, T)) rfl ?_
        refine xj_E.loc [0, 1, 2, 3, 4] xhth rfl (show xj_E (xX L xs) (D1 + 1) 85 52 [(0, .ref 32), (1, .int a), (2, .int b), (3, .int 1), (4, .int 1)] [] (SH, S2, T) P from ?_)
        exact ((okk_m_enter 200)) _ _ _ _ _ _ _ (by omega) hd h
  · have hd := hd.2 q
    have h := fun v S9 e => h v S9 (Eq.trans e (if_neg q).symm)
    exact xj_E.ret rfl rfl rfl rfl (h _ _ rfl)
