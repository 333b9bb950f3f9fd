/-! a method that stores: our machine does so -/
set_option maxHeartbeats 4000000 in
set_option maxRecDepth 100000 in
theorem ok_m_begin {L : Nat} {xs : Nat → Int32} {T : Nat → Nat → Int64} {D : Nat} {S : (Nat → Nat → Int32)} {P : (Option Value ⊕ Nat) → xj_W → Nat → Nat → Prop} {a : Int32} (hD : 9 ≤ D) (hd : d_m_begin a S) (h : ∀ v S9, (v, S9) = f_m_begin a S → P (.inl (some (.int v))) (SH, S9, T) 0 0) : xj_E (xX L xs) D 101 0 [(0, .ref 32), (1, .int a)] [] (SH, S, T) P := by
  unfold d_m_begin at hd
  unfold f_m_begin at h
  obtain ⟨D1, rfl⟩ : ∃ D1, D = D1 + 1 := ⟨D - 1, by omega⟩
  refine xj_E.adv 6 (pc' := (if xj_cmp .eq (S 32 15) 0 = true then 18 else 12)) (ls' := [(0, .ref 32), (1, .int a)]) (st' := []) (w' := (SH, (xj_set S 32 0 0), T)) rfl ?_
  refine xj_E.b_eq (fun q => ?_) (fun q => ?_)
  · have hd := hd.1 q
    have h := fun v S9 e => h v S9 (Eq.trans e (if_pos q).symm)
    refine xj_E.adv 3 (pc' := (if xj_cmp .lt a 2 = true then 29 else 23)) (ls' := [(0, .ref 32), (1, .int a)]) (st' := []) (w' := (SH, (xj_set S 32 0 0), T)) rfl ?_
    refine xj_E.b_lt (fun q => ?_) (fun q => ?_)
    · have hd := hd.1 q
      have h := fun v S9 e => h v S9 (Eq.trans e (if_pos q).symm)
      refine xj_E.adv 2 (pc' := 31) (ls' := [(0, .ref 32), (1, .int a)]) (st' := [.int 2, .ref 32]) (w' := (SH, (xj_set S 32 0 0), T)) rfl ?_
      refine xj_E.calli (d := D1) (S := SH) rfl rfl rfl rfl rfl (ok_m_fail (by omega) hd.1 ?_)
      intro v1 S1 e1
      refine ⟨_, _, _, rfl, rfl, rfl, rfl, ?_⟩
      have hd := hd.2
      generalize f_m_fail 2 (xj_set S 32 0 0) = Xe1 at e1 hd h
      subst e1
      exact xj_E.ret rfl rfl rfl rfl (h _ _ rfl)
    · have hd := hd.2 q
      have h := fun v S9 e => h v S9 (Eq.trans e (if_neg q).symm)
      refine xj_E.adv 3 (pc' := (if xj_cmp .le a 60 = true then 35 else 29)) (ls' := [(0, .ref 32), (1, .int a)]) (st' := []) (w' := (SH, (xj_set S 32 0 0), T)) rfl ?_
      refine xj_E.b_le (fun q => ?_) (fun q => ?_)
      · have hd := hd.1 q
        have h := fun v S9 e => h v S9 (Eq.trans e (if_pos q).symm)
        refine xj_E.adv 4 (pc' := 41) (ls' := [(0, .ref 32), (1, .int a)]) (st' := [.ref 32]) (w' := (SH, (xj_set (xj_set S 32 0 0) 32 16 a), T)) rfl ?_
        refine xj_E.callv (d := D1) (S := SH) rfl rfl rfl rfl rfl (ok_m_keep (by omega) hd.1 ?_)
        intro v2 S2 e2
        refine ⟨_, _, rfl, rfl, rfl, rfl, ?_⟩
        have hd := hd.2
        generalize f_m_keep (xj_set (xj_set S 32 0 0) 32 16 a) = Xe2 at e2 hd h
        subst e2
        have h : ∀ v S9, (v, S9) = ((match f_m_create 0 (-1) S2 with | (_, S3) => match f_m_make 0 2 S3 with | (_, S4) => match f_m_finish 3 S4 with | (v5, S5) => if (S5 32 38) ≠ 0 then ((v5, (xj_set S5 32 15 0))) else ((v5, (xj_set S5 32 15 1)))) : Int32 × (Nat → Nat → Int32)) → P (.inl (some (.int v))) (SH, S9, T) 0 0 := h
        refine xj_E.adv 3 (pc' := 47) (ls' := [(0, .ref 32), (1, .int a)]) (st' := [.int (-1), .int 0, .ref 32]) (w' := (SH, S2, T)) rfl ?_
        refine xj_E.callv (d := D1) (S := SH) rfl rfl rfl rfl rfl (ok_m_create (by omega) hd.1 ?_)
        intro v3 S3 e3
        refine ⟨_, _, rfl, rfl, rfl, rfl, ?_⟩
        have hd := hd.2
        generalize f_m_create 0 (-1) S2 = Xe3 at e3 hd h
        subst e3
        have h : ∀ v S9, (v, S9) = ((match f_m_make 0 2 S3 with | (_, S4) => match f_m_finish 3 S4 with | (v5, S5) => if (S5 32 38) ≠ 0 then ((v5, (xj_set S5 32 15 0))) else ((v5, (xj_set S5 32 15 1)))) : Int32 × (Nat → Nat → Int32)) → P (.inl (some (.int v))) (SH, S9, T) 0 0 := h
        refine xj_E.adv 3 (pc' := 53) (ls' := [(0, .ref 32), (1, .int a)]) (st' := [.int 2, .int 0, .ref 32]) (w' := (SH, S3, T)) rfl ?_
        refine xj_E.callv (d := D1) (S := SH) rfl rfl rfl rfl rfl (ok_m_make (by omega) hd.1 ?_)
        intro v4 S4 e4
        refine ⟨_, _, rfl, rfl, rfl, rfl, ?_⟩
        have hd := hd.2
        generalize f_m_make 0 2 S3 = Xe4 at e4 hd h
        subst e4
        have h : ∀ v S9, (v, S9) = ((match f_m_finish 3 S4 with | (v5, S5) => if (S5 32 38) ≠ 0 then ((v5, (xj_set S5 32 15 0))) else ((v5, (xj_set S5 32 15 1)))) : Int32 × (Nat → Nat → Int32)) → P (.inl (some (.int v))) (SH, S9, T) 0 0 := h
        refine xj_E.adv 2 (pc' := 58) (ls' := [(0, .ref 32), (1, .int a)]) (st' := [.int 3, .ref 32]) (w' := (SH, S4, T)) rfl ?_
        refine xj_E.calli (d := D1) (S := SH) rfl rfl rfl rfl rfl (ok_m_finish (by omega) hd.1 ?_)
        intro v5 S5 e5
        refine ⟨_, _, _, rfl, rfl, rfl, rfl, ?_⟩
        have hd := hd.2
        generalize f_m_finish 3 S4 = Xe5 at e5 hd h
        subst e5
        refine xj_E.adv 5 (pc' := (if xj_cmp .ne (S5 32 38) 0 = true then 74 else 70)) (ls' := [(2, .int v5), (0, .ref 32), (1, .int a)]) (st' := [.ref 32]) (w' := (SH, S5, T)) rfl ?_
        refine xj_E.b_ne (fun q => ?_) (fun q => ?_)
        · have hd := hd.1 q
          have h := fun v S9 e => h v S9 (Eq.trans e (if_pos q).symm)
          refine xj_E.adv 3 (pc' := 79) (ls' := [(2, .int v5), (0, .ref 32), (1, .int a)]) (st' := [.int v5]) (w' := (SH, (xj_set S5 32 15 0), T)) rfl ?_
          exact xj_E.ret rfl rfl rfl rfl (h _ _ rfl)
        · have hd := hd.2 q
          have h := fun v S9 e => h v S9 (Eq.trans e (if_neg q).symm)
          refine xj_E.adv 4 (pc' := 79) (ls' := [(2, .int v5), (0, .ref 32), (1, .int a)]) (st' := [.int v5]) (w' := (SH, (xj_set S5 32 15 1), T)) rfl ?_
          exact xj_E.ret rfl rfl rfl rfl (h _ _ rfl)
      · have hd := hd.2 q
        have h := fun v S9 e => h v S9 (Eq.trans e (if_neg q).symm)
        refine xj_E.adv 2 (pc' := 31) (ls' := [(0, .ref 32), (1, .int a)]) (st' := [.int 2, .ref 32]) (w' := (SH, (xj_set S 32 0 0), T)) rfl ?_
        refine xj_E.calli (d := D1) (S := SH) rfl rfl rfl rfl rfl (ok_m_fail (by omega) hd.1 ?_)
        intro v6 S6 e6
        refine ⟨_, _, _, rfl, rfl, rfl, rfl, ?_⟩
        have hd := hd.2
        generalize f_m_fail 2 (xj_set S 32 0 0) = Xe6 at e6 hd h
        subst e6
        exact xj_E.ret rfl rfl rfl rfl (h _ _ rfl)
  · have hd := hd.2 q
    have h := fun v S9 e => h v S9 (Eq.trans e (if_neg q).symm)
    refine xj_E.adv 2 (pc' := 14) (ls' := [(0, .ref 32), (1, .int a)]) (st' := [.int 1, .ref 32]) (w' := (SH, (xj_set S 32 0 0), T)) rfl ?_
    refine xj_E.calli (d := D1) (S := SH) rfl rfl rfl rfl rfl (ok_m_fail (by omega) hd.1 ?_)
    intro v7 S7 e7
    refine ⟨_, _, _, rfl, rfl, rfl, rfl, ?_⟩
    have hd := hd.2
    generalize f_m_fail 1 (xj_set S 32 0 0) = Xe7 at e7 hd h
    subst e7
    exact xj_E.ret rfl rfl rfl rfl (h _ _ rfl)
