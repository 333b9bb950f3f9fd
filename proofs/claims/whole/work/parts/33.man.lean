/-! a method that stores: our machine does so -/
set_option maxHeartbeats 4000000 in
set_option maxRecDepth 100000 in
theorem ok_m_sentry {L : Nat} {xs : Nat → Int32} {T : Nat → Nat → Int64} {D : Nat} {S : (Nat → Nat → Int32)} {P : (Option Value ⊕ Nat) → xj_W → Nat → Nat → Prop} {a b : Int32} (hD : 1 ≤ D) (hd : d_m_sentry a b S) (h : ∀ v S9, (v, S9) = f_m_sentry a b S → P (.inl (some (.int v))) (SH, S9, T) 0 0) : xj_E (xX L xs) D 72 0 [(0, .ref 32), (1, .int a), (2, .int b)] [] (SH, S, T) P := by
  unfold d_m_sentry at hd
  unfold f_m_sentry at h
  obtain ⟨D1, rfl⟩ : ∃ D1, D = D1 + 1 := ⟨D - 1, by omega⟩
  refine xj_E.adv 6 (pc' := (if xj_cmp .ne (S 32 15) 0 = true then 21 else 12)) (ls' := [(0, .ref 32), (1, .int a), (2, .int b)]) (st' := []) (w' := (SH, (xj_set S 32 0 0), T)) rfl ?_
  refine xj_E.b_ne (fun q => ?_) (fun q => ?_)
  · have hd := hd.1 q
    have h := fun v S9 e => h v S9 (Eq.trans e (if_pos q).symm)
    refine xj_E.adv 2 (pc' := 23) (ls' := [(0, .ref 32), (1, .int a), (2, .int b)]) (st' := [.int 1, .ref 32]) (w' := (SH, (xj_set S 32 0 0), T)) rfl ?_
    refine xj_E.calli (d := D1) (S := SH) rfl rfl rfl rfl rfl (ok_m_fail (by omega) hd.1 ?_)
    intro v1 S1 e1
    refine ⟨_, _, _, rfl, rfl, rfl, rfl, ?_⟩
    have hd := hd.2
    generalize f_m_fail 1 (xj_set S 32 0 0) = Xe1 at e1 hd h
    subst e1
    exact xj_E.ret rfl rfl rfl rfl (h _ _ rfl)
  · have hd := hd.2 q
    have h := fun v S9 e => h v S9 (Eq.trans e (if_neg q).symm)
    refine xj_E.adv 4 (pc' := (if xj_cmp .ne (S 32 5) 16 = true then 27 else 21)) (ls' := [(0, .ref 32), (1, .int a), (2, .int b)]) (st' := []) (w' := (SH, (xj_set S 32 0 0), T)) rfl ?_
    refine xj_E.b_ne (fun q => ?_) (fun q => ?_)
    · have hd := hd.1 q
      have h := fun v S9 e => h v S9 (Eq.trans e (if_pos q).symm)
      refine xj_E.adv 3 (pc' := (if xj_cmp .lt a 1 = true then 40 else 32)) (ls' := [(0, .ref 32), (1, .int a), (2, .int b)]) (st' := []) (w' := (SH, (xj_set S 32 0 0), T)) rfl ?_
      refine xj_E.b_lt (fun q => ?_) (fun q => ?_)
      · have hd := hd.1 q
        have h := fun v S9 e => h v S9 (Eq.trans e (if_pos q).symm)
        refine xj_E.adv 2 (pc' := 42) (ls' := [(0, .ref 32), (1, .int a), (2, .int b)]) (st' := [.int 2, .ref 32]) (w' := (SH, (xj_set S 32 0 0), T)) rfl ?_
        refine xj_E.calli (d := D1) (S := SH) rfl rfl rfl rfl rfl (ok_m_fail (by omega) hd.1 ?_)
        intro v2 S2 e2
        refine ⟨_, _, _, rfl, rfl, rfl, rfl, ?_⟩
        have hd := hd.2
        generalize f_m_fail 2 (xj_set S 32 0 0) = Xe2 at e2 hd h
        subst e2
        exact xj_E.ret rfl rfl rfl rfl (h _ _ rfl)
      · have hd := hd.2 q
        have h := fun v S9 e => h v S9 (Eq.trans e (if_neg q).symm)
        refine xj_E.adv 4 (pc' := (if xj_cmp .lt a (S 32 1) = true then 46 else 40)) (ls' := [(0, .ref 32), (1, .int a), (2, .int b)]) (st' := []) (w' := (SH, (xj_set S 32 0 0), T)) rfl ?_
        refine xj_E.b_lt (fun q => ?_) (fun q => ?_)
        · have hd := hd.1 q
          have h := fun v S9 e => h v S9 (Eq.trans e (if_pos q).symm)
          refine xj_E.adv 3 (pc' := 51) (ls' := [(0, .ref 32), (1, .int a), (2, .int b)]) (st' := [.int a, .ref 33]) (w' := (SH, (xj_set S 32 0 0), T)) rfl ?_
          refine xj_E.iald rfl rfl hd.1 ?_
          have hd := hd.2
          refine xj_E.adv 2 (pc' := (if xj_cmp .eq b 0 = true then 60 else 56)) (ls' := [(0, .ref 32), (1, .int a), (2, .int b)]) (st' := [.int (S 33 a.toNatClampNeg)]) (w' := (SH, (xj_set S 32 0 0), T)) rfl ?_
          refine xj_E.b_eq (fun q => ?_) (fun q => ?_)
          · have hd := hd.1 q
            have h := fun v S9 e => h v S9 (Eq.trans e (if_pos q).symm)
            refine xj_E.adv 2 (pc' := (if xj_cmp .le (S 33 a.toNatClampNeg) 2 = true then 70 else 64)) (ls' := [(0, .ref 32), (1, .int a), (2, .int b)]) (st' := []) (w' := (SH, (xj_set S 32 0 0), T)) rfl ?_
            refine xj_E.b_le (fun q => ?_) (fun q => ?_)
            · have hd := hd.1 q
              have h := fun v S9 e => h v S9 (Eq.trans e (if_pos q).symm)
              refine xj_E.adv 5 (pc' := 79) (ls' := [(0, .ref 32), (1, .int a), (2, .int b)]) (st' := [.int a, .int (S 32 5), .ref 36]) (w' := (SH, (xj_set S 32 0 0), T)) rfl ?_
              refine xj_E.iast rfl rfl hd.1 ?_
              have hd := hd.2
              refine xj_E.adv 5 (pc' := 89) (ls' := [(0, .ref 32), (1, .int a), (2, .int b)]) (st' := [.int b, .int (S 32 5), .ref 37]) (w' := (SH, (xj_set (xj_set S 32 0 0) 36 (S 32 5).toNatClampNeg a), T)) rfl ?_
              refine xj_E.bast rfl rfl hd.1 ?_
              have hd := hd.2
              refine xj_E.adv 5 (pc' := 99) (ls' := [(0, .ref 32), (1, .int a), (2, .int b)]) (st' := [.int 0, .int (S 32 5), .ref 38]) (w' := (SH, (xj_set (xj_set (xj_set S 32 0 0) 36 (S 32 5).toNatClampNeg a) 37 (S 32 5).toNatClampNeg (b &&& 1)), T)) rfl ?_
              refine xj_E.iast rfl rfl hd.1 ?_
              have hd := hd.2
              refine xj_E.adv 5 (pc' := 109) (ls' := [(0, .ref 32), (1, .int a), (2, .int b)]) (st' := [.int 0, .int (S 32 5), .ref 41]) (w' := (SH, (xj_set (xj_set (xj_set (xj_set S 32 0 0) 36 (S 32 5).toNatClampNeg a) 37 (S 32 5).toNatClampNeg (b &&& 1)) 38 (S 32 5).toNatClampNeg 0), T)) rfl ?_
              refine xj_E.bast rfl rfl hd.1 ?_
              have hd := hd.2
              refine xj_E.adv 10 (pc' := 126) (ls' := [(0, .ref 32), (1, .int a), (2, .int b)]) (st' := [.int (((S 32 5) + 1) - 1)]) (w' := (SH, (xj_set (xj_set (xj_set (xj_set (xj_set (xj_set S 32 0 0) 36 (S 32 5).toNatClampNeg a) 37 (S 32 5).toNatClampNeg (b &&& 1)) 38 (S 32 5).toNatClampNeg 0) 41 (S 32 5).toNatClampNeg (0 &&& 1)) 32 5 ((S 32 5) + 1)), T)) rfl ?_
              exact xj_E.ret rfl rfl rfl rfl (h _ _ rfl)
            · have hd := hd.2 q
              have h := fun v S9 e => h v S9 (Eq.trans e (if_neg q).symm)
              refine xj_E.adv 2 (pc' := 66) (ls' := [(0, .ref 32), (1, .int a), (2, .int b)]) (st' := [.int 2, .ref 32]) (w' := (SH, (xj_set S 32 0 0), T)) rfl ?_
              refine xj_E.calli (d := D1) (S := SH) rfl rfl rfl rfl rfl (ok_m_fail (by omega) hd.1 ?_)
              intro v3 S3 e3
              refine ⟨_, _, _, rfl, rfl, rfl, rfl, ?_⟩
              have hd := hd.2
              generalize f_m_fail 2 (xj_set S 32 0 0) = Xe3 at e3 hd h
              subst e3
              exact xj_E.ret rfl rfl rfl rfl (h _ _ rfl)
          · have hd := hd.2 q
            have h := fun v S9 e => h v S9 (Eq.trans e (if_neg q).symm)
            refine xj_E.adv 3 (pc' := (if xj_cmp .le (S 33 a.toNatClampNeg) 1 = true then 70 else 64)) (ls' := [(0, .ref 32), (1, .int a), (2, .int b)]) (st' := []) (w' := (SH, (xj_set S 32 0 0), T)) rfl ?_
            refine xj_E.b_le (fun q => ?_) (fun q => ?_)
            · have hd := hd.1 q
              have h := fun v S9 e => h v S9 (Eq.trans e (if_pos q).symm)
              refine xj_E.adv 5 (pc' := 79) (ls' := [(0, .ref 32), (1, .int a), (2, .int b)]) (st' := [.int a, .int (S 32 5), .ref 36]) (w' := (SH, (xj_set S 32 0 0), T)) rfl ?_
              refine xj_E.iast rfl rfl hd.1 ?_
              have hd := hd.2
              refine xj_E.adv 5 (pc' := 89) (ls' := [(0, .ref 32), (1, .int a), (2, .int b)]) (st' := [.int b, .int (S 32 5), .ref 37]) (w' := (SH, (xj_set (xj_set S 32 0 0) 36 (S 32 5).toNatClampNeg a), T)) rfl ?_
              refine xj_E.bast rfl rfl hd.1 ?_
              have hd := hd.2
              refine xj_E.adv 5 (pc' := 99) (ls' := [(0, .ref 32), (1, .int a), (2, .int b)]) (st' := [.int 0, .int (S 32 5), .ref 38]) (w' := (SH, (xj_set (xj_set (xj_set S 32 0 0) 36 (S 32 5).toNatClampNeg a) 37 (S 32 5).toNatClampNeg (b &&& 1)), T)) rfl ?_
              refine xj_E.iast rfl rfl hd.1 ?_
              have hd := hd.2
              refine xj_E.adv 5 (pc' := 109) (ls' := [(0, .ref 32), (1, .int a), (2, .int b)]) (st' := [.int 0, .int (S 32 5), .ref 41]) (w' := (SH, (xj_set (xj_set (xj_set (xj_set S 32 0 0) 36 (S 32 5).toNatClampNeg a) 37 (S 32 5).toNatClampNeg (b &&& 1)) 38 (S 32 5).toNatClampNeg 0), T)) rfl ?_
              refine xj_E.bast rfl rfl hd.1 ?_
              have hd := hd.2
              refine xj_E.adv 10 (pc' := 126) (ls' := [(0, .ref 32), (1, .int a), (2, .int b)]) (st' := [.int (((S 32 5) + 1) - 1)]) (w' := (SH, (xj_set (xj_set (xj_set (xj_set (xj_set (xj_set S 32 0 0) 36 (S 32 5).toNatClampNeg a) 37 (S 32 5).toNatClampNeg (b &&& 1)) 38 (S 32 5).toNatClampNeg 0) 41 (S 32 5).toNatClampNeg (0 &&& 1)) 32 5 ((S 32 5) + 1)), T)) rfl ?_
              exact xj_E.ret rfl rfl rfl rfl (h _ _ rfl)
            · have hd := hd.2 q
              have h := fun v S9 e => h v S9 (Eq.trans e (if_neg q).symm)
              refine xj_E.adv 2 (pc' := 66) (ls' := [(0, .ref 32), (1, .int a), (2, .int b)]) (st' := [.int 2, .ref 32]) (w' := (SH, (xj_set S 32 0 0), T)) rfl ?_
              refine xj_E.calli (d := D1) (S := SH) rfl rfl rfl rfl rfl (ok_m_fail (by omega) hd.1 ?_)
              intro v4 S4 e4
              refine ⟨_, _, _, rfl, rfl, rfl, rfl, ?_⟩
              have hd := hd.2
              generalize f_m_fail 2 (xj_set S 32 0 0) = Xe4 at e4 hd h
              subst e4
              exact xj_E.ret rfl rfl rfl rfl (h _ _ rfl)
        · have hd := hd.2 q
          have h := fun v S9 e => h v S9 (Eq.trans e (if_neg q).symm)
          refine xj_E.adv 2 (pc' := 42) (ls' := [(0, .ref 32), (1, .int a), (2, .int b)]) (st' := [.int 2, .ref 32]) (w' := (SH, (xj_set S 32 0 0), T)) rfl ?_
          refine xj_E.calli (d := D1) (S := SH) rfl rfl rfl rfl rfl (ok_m_fail (by omega) hd.1 ?_)
          intro v5 S5 e5
          refine ⟨_, _, _, rfl, rfl, rfl, rfl, ?_⟩
          have hd := hd.2
          generalize f_m_fail 2 (xj_set S 32 0 0) = Xe5 at e5 hd h
          subst e5
          exact xj_E.ret rfl rfl rfl rfl (h _ _ rfl)
    · have hd := hd.2 q
      have h := fun v S9 e => h v S9 (Eq.trans e (if_neg q).symm)
      refine xj_E.adv 2 (pc' := 23) (ls' := [(0, .ref 32), (1, .int a), (2, .int b)]) (st' := [.int 1, .ref 32]) (w' := (SH, (xj_set S 32 0 0), T)) rfl ?_
      refine xj_E.calli (d := D1) (S := SH) rfl rfl rfl rfl rfl (ok_m_fail (by omega) hd.1 ?_)
      intro v6 S6 e6
      refine ⟨_, _, _, rfl, rfl, rfl, rfl, ?_⟩
      have hd := hd.2
      generalize f_m_fail 1 (xj_set S 32 0 0) = Xe6 at e6 hd h
      subst e6
      exact xj_E.ret rfl rfl rfl rfl (h _ _ rfl)
