/-! a method that stores: our machine does so -/
set_option maxHeartbeats 4000000 in
set_option maxRecDepth 100000 in
theorem ok_m_set {L : Nat} {xs : Nat → Int32} {T : Nat → Nat → Int64} {D : Nat} {S : (Nat → Nat → Int32)} {P : (Option Value ⊕ Nat) → xj_W → Nat → Nat → Prop} {a b : Int32} (hD : 9 ≤ D) (hd : d_m_set a b S) (h : ∀ v S9, (v, S9) = f_m_set a b S → P (.inl (some (.int v))) (SH, S9, T) 0 0) : xj_E (xX L xs) D 107 0 [(0, .ref 32), (1, .int a), (2, .int b)] [] (SH, S, T) P := by
  unfold d_m_set at hd
  unfold f_m_set at h
  obtain ⟨D1, rfl⟩ : ∃ D1, D = D1 + 1 := ⟨D - 1, by omega⟩
  refine xj_E.adv 5 (pc' := 7) (ls' := [(0, .ref 32), (1, .int a), (2, .int b)]) (st' := [.int 3, .int a]) (w' := (SH, (xj_set S 32 0 0), T)) rfl ?_
  refine xj_E.calli (d := D1) (S := SH) rfl rfl rfl rfl rfl (xj_E.deep (ok_m_within (d := 0) hd.1 ?_) (by omega))
  intro w1 f1
  refine ⟨_, _, _, rfl, rfl, rfl, rfl, ?_⟩
  have hd := hd.2
  rw [← f1] at hd
  have h : ∀ v S9, (v, S9) = ((if (r_m_within (xj_set S 32 0 0) a 3) ≠ 0 then (if (S 32 15) ≠ 0 then (match f_m_keep (xj_set S 32 0 0) with | (_, S1) => if (S1 50 a.toNatClampNeg) = b then (match f_m_finish 2 (xj_set S1 50 a.toNatClampNeg b) with | (v2, S2) => (v2, S2)) else (match f_m_markVariable a S1 with | (_, S3) => match f_m_finish 2 (xj_set S3 50 a.toNatClampNeg b) with | (v4, S4) => (v4, S4))) else ((0, (xj_set (xj_set S 32 0 0) 50 a.toNatClampNeg b)))) else (match f_m_fail 1 (xj_set S 32 0 0) with | (v5, S5) => (v5, S5))) : Int32 × (Nat → Nat → Int32)) → P (.inl (some (.int v))) (SH, S9, T) 0 0 := h
  rw [← f1] at h
  refine xj_E.adv 1 (pc' := (if xj_cmp .ne w1 0 = true then 19 else 13)) (ls' := [(0, .ref 32), (1, .int a), (2, .int b)]) (st' := []) (w' := (SH, (xj_set S 32 0 0), T)) rfl ?_
  refine xj_E.b_ne (fun q => ?_) (fun q => ?_)
  · have hd := hd.1 q
    have h := fun v S9 e => h v S9 (Eq.trans e (if_pos q).symm)
    refine xj_E.adv 3 (pc' := (if xj_cmp .ne (S 32 15) 0 = true then 35 else 26)) (ls' := [(0, .ref 32), (1, .int a), (2, .int b)]) (st' := []) (w' := (SH, (xj_set S 32 0 0), T)) rfl ?_
    refine xj_E.b_ne (fun q => ?_) (fun q => ?_)
    · have hd := hd.1 q
      have h := fun v S9 e => h v S9 (Eq.trans e (if_pos q).symm)
      refine xj_E.adv 1 (pc' := 36) (ls' := [(0, .ref 32), (1, .int a), (2, .int b)]) (st' := [.ref 32]) (w' := (SH, (xj_set S 32 0 0), T)) rfl ?_
      refine xj_E.callv (d := D1) (S := SH) rfl rfl rfl rfl rfl (ok_m_keep (by omega) hd.1 ?_)
      intro v1 S1 e1
      refine ⟨_, _, rfl, rfl, rfl, rfl, ?_⟩
      have hd := hd.2
      generalize f_m_keep (xj_set S 32 0 0) = Xe1 at e1 hd h
      subst e1
      have h : ∀ v S9, (v, S9) = ((if (S1 50 a.toNatClampNeg) = b then (match f_m_finish 2 (xj_set S1 50 a.toNatClampNeg b) with | (v2, S2) => (v2, S2)) else (match f_m_markVariable a S1 with | (_, S3) => match f_m_finish 2 (xj_set S3 50 a.toNatClampNeg b) with | (v4, S4) => (v4, S4))) : Int32 × (Nat → Nat → Int32)) → P (.inl (some (.int v))) (SH, S9, T) 0 0 := h
      refine xj_E.adv 3 (pc' := 44) (ls' := [(0, .ref 32), (1, .int a), (2, .int b)]) (st' := [.int a, .ref 50]) (w' := (SH, S1, T)) rfl ?_
      refine xj_E.iald rfl rfl hd.1 ?_
      have hd := hd.2
      refine xj_E.adv 2 (pc' := (if xj_cmp .eq (S1 50 a.toNatClampNeg) b = true then 54 else 49)) (ls' := [(0, .ref 32), (1, .int a), (2, .int b)]) (st' := []) (w' := (SH, S1, T)) rfl ?_
      refine xj_E.b_eq (fun q => ?_) (fun q => ?_)
      · have hd := hd.1 q
        have h := fun v S9 e => h v S9 (Eq.trans e (if_pos q).symm)
        refine xj_E.adv 4 (pc' := 60) (ls' := [(0, .ref 32), (1, .int a), (2, .int b)]) (st' := [.int b, .int a, .ref 50]) (w' := (SH, S1, T)) rfl ?_
        refine xj_E.iast rfl rfl hd.1 ?_
        have hd := hd.2
        refine xj_E.adv 2 (pc' := 63) (ls' := [(0, .ref 32), (1, .int a), (2, .int b)]) (st' := [.int 2, .ref 32]) (w' := (SH, (xj_set S1 50 a.toNatClampNeg b), T)) rfl ?_
        refine xj_E.calli (d := D1) (S := SH) rfl rfl rfl rfl rfl (ok_m_finish (by omega) hd.1 ?_)
        intro v2 S2 e2
        refine ⟨_, _, _, rfl, rfl, rfl, rfl, ?_⟩
        have hd := hd.2
        generalize f_m_finish 2 (xj_set S1 50 a.toNatClampNeg b) = Xe2 at e2 hd h
        subst e2
        exact xj_E.ret rfl rfl rfl rfl (h _ _ rfl)
      · have hd := hd.2 q
        have h := fun v S9 e => h v S9 (Eq.trans e (if_neg q).symm)
        refine xj_E.adv 2 (pc' := 51) (ls' := [(0, .ref 32), (1, .int a), (2, .int b)]) (st' := [.int a, .ref 32]) (w' := (SH, S1, T)) rfl ?_
        refine xj_E.callv (d := D1) (S := SH) rfl rfl rfl rfl rfl (ok_m_markVariable (by omega) hd.1 ?_)
        intro v3 S3 e3
        refine ⟨_, _, rfl, rfl, rfl, rfl, ?_⟩
        have hd := hd.2
        generalize f_m_markVariable a S1 = Xe3 at e3 hd h
        subst e3
        have h : ∀ v S9, (v, S9) = ((match f_m_finish 2 (xj_set S3 50 a.toNatClampNeg b) with | (v4, S4) => (v4, S4)) : Int32 × (Nat → Nat → Int32)) → P (.inl (some (.int v))) (SH, S9, T) 0 0 := h
        refine xj_E.adv 4 (pc' := 60) (ls' := [(0, .ref 32), (1, .int a), (2, .int b)]) (st' := [.int b, .int a, .ref 50]) (w' := (SH, S3, T)) rfl ?_
        refine xj_E.iast rfl rfl hd.1 ?_
        have hd := hd.2
        refine xj_E.adv 2 (pc' := 63) (ls' := [(0, .ref 32), (1, .int a), (2, .int b)]) (st' := [.int 2, .ref 32]) (w' := (SH, (xj_set S3 50 a.toNatClampNeg b), T)) rfl ?_
        refine xj_E.calli (d := D1) (S := SH) rfl rfl rfl rfl rfl (ok_m_finish (by omega) hd.1 ?_)
        intro v4 S4 e4
        refine ⟨_, _, _, rfl, rfl, rfl, rfl, ?_⟩
        have hd := hd.2
        generalize f_m_finish 2 (xj_set S3 50 a.toNatClampNeg b) = Xe4 at e4 hd h
        subst e4
        exact xj_E.ret rfl rfl rfl rfl (h _ _ rfl)
    · have hd := hd.2 q
      have h := fun v S9 e => h v S9 (Eq.trans e (if_neg q).symm)
      refine xj_E.adv 4 (pc' := 32) (ls' := [(0, .ref 32), (1, .int a), (2, .int b)]) (st' := [.int b, .int a, .ref 50]) (w' := (SH, (xj_set S 32 0 0), T)) rfl ?_
      refine xj_E.iast rfl rfl hd.1 ?_
      have hd := hd.2
      refine xj_E.adv 1 (pc' := 34) (ls' := [(0, .ref 32), (1, .int a), (2, .int b)]) (st' := [.int 0]) (w' := (SH, (xj_set (xj_set S 32 0 0) 50 a.toNatClampNeg b), T)) rfl ?_
      exact xj_E.ret rfl rfl rfl rfl (h _ _ rfl)
  · have hd := hd.2 q
    have h := fun v S9 e => h v S9 (Eq.trans e (if_neg q).symm)
    refine xj_E.adv 2 (pc' := 15) (ls' := [(0, .ref 32), (1, .int a), (2, .int b)]) (st' := [.int 1, .ref 32]) (w' := (SH, (xj_set S 32 0 0), T)) rfl ?_
    refine xj_E.calli (d := D1) (S := SH) rfl rfl rfl rfl rfl (ok_m_fail (by omega) hd.1 ?_)
    intro v5 S5 e5
    refine ⟨_, _, _, rfl, rfl, rfl, rfl, ?_⟩
    have hd := hd.2
    generalize f_m_fail 1 (xj_set S 32 0 0) = Xe5 at e5 hd h
    subst e5
    exact xj_E.ret rfl rfl rfl rfl (h _ _ rfl)
