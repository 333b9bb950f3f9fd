/-! a method that stores: our machine does so -/
set_option maxHeartbeats 4000000 in
set_option maxRecDepth 100000 in
theorem ok_m_when {L : Nat} {xs : Nat → Int32} {T : Nat → Nat → Int64} {D : Nat} {S : (Nat → Nat → Int32)} {P : (Option Value ⊕ Nat) → xj_W → Nat → Nat → Prop} {a b c d : Int32} (hD : 1 ≤ D) (hd : d_m_when a b c d S) (h : ∀ v S9, (v, S9) = f_m_when a b c d S → P (.inl none) (SH, S9, T) 0 0) : xj_E (xX L xs) D 75 0 [(0, .ref 32), (1, .int a), (2, .int b), (3, .int c), (4, .int d)] [] (SH, S, T) P := by
  unfold d_m_when at hd
  unfold f_m_when at h
  obtain ⟨D1, rfl⟩ : ∃ D1, D = D1 + 1 := ⟨D - 1, by omega⟩
  refine xj_E.adv 6 (pc' := (if xj_cmp .eq (S 32 15) 0 = true then 18 else 12)) (ls' := [(0, .ref 32), (1, .int a), (2, .int b), (3, .int c), (4, .int d)]) (st' := []) (w' := (SH, (xj_set S 32 0 0), T)) rfl ?_
  refine xj_E.b_eq (fun q => ?_) (fun q => ?_)
  · have hd := hd.1 q
    have h := fun v S9 e => h v S9 (Eq.trans e (if_pos q).symm)
    refine xj_E.adv 2 (pc' := 20) (ls' := [(0, .ref 32), (1, .int a), (2, .int b), (3, .int c), (4, .int d)]) (st' := [.int a, .ref 32]) (w' := (SH, (xj_set S 32 0 0), T)) rfl ?_
    refine xj_E.calli (d := D1) (S := SH) rfl rfl rfl rfl rfl (xj_E.deep (ok_m_isSentry (d := 0) hd.1 ?_) (by omega))
    intro w1 f1
    refine ⟨_, _, _, rfl, rfl, rfl, rfl, ?_⟩
    have hd := hd.2
    rw [← f1] at hd
    have h : ∀ v S9, (v, S9) = ((if (r_m_isSentry (xj_set S 32 0 0) a) = 0 then ((0, (xj_set (xj_set S 32 0 0) 32 0 2))) else (if (r_m_within (xj_set S 32 0 0) b 3) = 0 then ((0, (xj_set (xj_set S 32 0 0) 32 0 2))) else (if (r_m_within (xj_set S 32 0 0) c 2) ≠ 0 then ((0, (xj_set (xj_set (xj_set (xj_set (xj_set S 32 0 0) 41 a.toNatClampNeg (1 &&& 1)) 42 a.toNatClampNeg b) 43 a.toNatClampNeg c) 44 a.toNatClampNeg d))) else ((0, (xj_set (xj_set S 32 0 0) 32 0 2)))))) : Int32 × (Nat → Nat → Int32)) → P (.inl none) (SH, S9, T) 0 0 := h
    rw [← f1] at h
    refine xj_E.adv 1 (pc' := (if xj_cmp .eq w1 0 = true then 42 else 26)) (ls' := [(0, .ref 32), (1, .int a), (2, .int b), (3, .int c), (4, .int d)]) (st' := []) (w' := (SH, (xj_set S 32 0 0), T)) rfl ?_
    refine xj_E.b_eq (fun q => ?_) (fun q => ?_)
    · have hd := hd.1 q
      have h := fun v S9 e => h v S9 (Eq.trans e (if_pos q).symm)
      refine xj_E.adv 3 (pc' := 47) (ls' := [(0, .ref 32), (1, .int a), (2, .int b), (3, .int c), (4, .int d)]) (st' := []) (w' := (SH, (xj_set (xj_set S 32 0 0) 32 0 2), T)) rfl ?_
      exact xj_E.ret rfl rfl rfl rfl (h _ _ rfl)
    · have hd := hd.2 q
      have h := fun v S9 e => h v S9 (Eq.trans e (if_neg q).symm)
      refine xj_E.adv 2 (pc' := 28) (ls' := [(0, .ref 32), (1, .int a), (2, .int b), (3, .int c), (4, .int d)]) (st' := [.int 3, .int b]) (w' := (SH, (xj_set S 32 0 0), T)) rfl ?_
      refine xj_E.calli (d := D1) (S := SH) rfl rfl rfl rfl rfl (xj_E.deep (ok_m_within (d := 0) hd.1 ?_) (by omega))
      intro w2 f2
      refine ⟨_, _, _, rfl, rfl, rfl, rfl, ?_⟩
      have hd := hd.2
      rw [← f2] at hd
      have h : ∀ v S9, (v, S9) = ((if (r_m_within (xj_set S 32 0 0) b 3) = 0 then ((0, (xj_set (xj_set S 32 0 0) 32 0 2))) else (if (r_m_within (xj_set S 32 0 0) c 2) ≠ 0 then ((0, (xj_set (xj_set (xj_set (xj_set (xj_set S 32 0 0) 41 a.toNatClampNeg (1 &&& 1)) 42 a.toNatClampNeg b) 43 a.toNatClampNeg c) 44 a.toNatClampNeg d))) else ((0, (xj_set (xj_set S 32 0 0) 32 0 2))))) : Int32 × (Nat → Nat → Int32)) → P (.inl none) (SH, S9, T) 0 0 := h
      rw [← f2] at h
      refine xj_E.adv 1 (pc' := (if xj_cmp .eq w2 0 = true then 42 else 34)) (ls' := [(0, .ref 32), (1, .int a), (2, .int b), (3, .int c), (4, .int d)]) (st' := []) (w' := (SH, (xj_set S 32 0 0), T)) rfl ?_
      refine xj_E.b_eq (fun q => ?_) (fun q => ?_)
      · have hd := hd.1 q
        have h := fun v S9 e => h v S9 (Eq.trans e (if_pos q).symm)
        refine xj_E.adv 3 (pc' := 47) (ls' := [(0, .ref 32), (1, .int a), (2, .int b), (3, .int c), (4, .int d)]) (st' := []) (w' := (SH, (xj_set (xj_set S 32 0 0) 32 0 2), T)) rfl ?_
        exact xj_E.ret rfl rfl rfl rfl (h _ _ rfl)
      · have hd := hd.2 q
        have h := fun v S9 e => h v S9 (Eq.trans e (if_neg q).symm)
        refine xj_E.adv 2 (pc' := 36) (ls' := [(0, .ref 32), (1, .int a), (2, .int b), (3, .int c), (4, .int d)]) (st' := [.int 2, .int c]) (w' := (SH, (xj_set S 32 0 0), T)) rfl ?_
        refine xj_E.calli (d := D1) (S := SH) rfl rfl rfl rfl rfl (xj_E.deep (ok_m_within (d := 0) hd.1 ?_) (by omega))
        intro w3 f3
        refine ⟨_, _, _, rfl, rfl, rfl, rfl, ?_⟩
        have hd := hd.2
        rw [← f3] at hd
        have h : ∀ v S9, (v, S9) = ((if (r_m_within (xj_set S 32 0 0) c 2) ≠ 0 then ((0, (xj_set (xj_set (xj_set (xj_set (xj_set S 32 0 0) 41 a.toNatClampNeg (1 &&& 1)) 42 a.toNatClampNeg b) 43 a.toNatClampNeg c) 44 a.toNatClampNeg d))) else ((0, (xj_set (xj_set S 32 0 0) 32 0 2)))) : Int32 × (Nat → Nat → Int32)) → P (.inl none) (SH, S9, T) 0 0 := h
        rw [← f3] at h
        refine xj_E.adv 1 (pc' := (if xj_cmp .ne w3 0 = true then 48 else 42)) (ls' := [(0, .ref 32), (1, .int a), (2, .int b), (3, .int c), (4, .int d)]) (st' := []) (w' := (SH, (xj_set S 32 0 0), T)) rfl ?_
        refine xj_E.b_ne (fun q => ?_) (fun q => ?_)
        · have hd := hd.1 q
          have h := fun v S9 e => h v S9 (Eq.trans e (if_pos q).symm)
          refine xj_E.adv 4 (pc' := 54) (ls' := [(0, .ref 32), (1, .int a), (2, .int b), (3, .int c), (4, .int d)]) (st' := [.int 1, .int a, .ref 41]) (w' := (SH, (xj_set S 32 0 0), T)) rfl ?_
          refine xj_E.bast rfl rfl hd.1 ?_
          have hd := hd.2
          refine xj_E.adv 4 (pc' := 61) (ls' := [(0, .ref 32), (1, .int a), (2, .int b), (3, .int c), (4, .int d)]) (st' := [.int b, .int a, .ref 42]) (w' := (SH, (xj_set (xj_set S 32 0 0) 41 a.toNatClampNeg (1 &&& 1)), T)) rfl ?_
          refine xj_E.iast rfl rfl hd.1 ?_
          have hd := hd.2
          refine xj_E.adv 4 (pc' := 68) (ls' := [(0, .ref 32), (1, .int a), (2, .int b), (3, .int c), (4, .int d)]) (st' := [.int c, .int a, .ref 43]) (w' := (SH, (xj_set (xj_set (xj_set S 32 0 0) 41 a.toNatClampNeg (1 &&& 1)) 42 a.toNatClampNeg b), T)) rfl ?_
          refine xj_E.iast rfl rfl hd.1 ?_
          have hd := hd.2
          refine xj_E.adv 4 (pc' := 76) (ls' := [(0, .ref 32), (1, .int a), (2, .int b), (3, .int c), (4, .int d)]) (st' := [.int d, .int a, .ref 44]) (w' := (SH, (xj_set (xj_set (xj_set (xj_set S 32 0 0) 41 a.toNatClampNeg (1 &&& 1)) 42 a.toNatClampNeg b) 43 a.toNatClampNeg c), T)) rfl ?_
          refine xj_E.iast rfl rfl hd.1 ?_
          have hd := hd.2
          exact xj_E.ret rfl rfl rfl rfl (h _ _ rfl)
        · have hd := hd.2 q
          have h := fun v S9 e => h v S9 (Eq.trans e (if_neg q).symm)
          refine xj_E.adv 3 (pc' := 47) (ls' := [(0, .ref 32), (1, .int a), (2, .int b), (3, .int c), (4, .int d)]) (st' := []) (w' := (SH, (xj_set (xj_set S 32 0 0) 32 0 2), T)) rfl ?_
          exact xj_E.ret rfl rfl rfl rfl (h _ _ rfl)
  · have hd := hd.2 q
    have h := fun v S9 e => h v S9 (Eq.trans e (if_neg q).symm)
    refine xj_E.adv 3 (pc' := 17) (ls' := [(0, .ref 32), (1, .int a), (2, .int b), (3, .int c), (4, .int d)]) (st' := []) (w' := (SH, (xj_set (xj_set S 32 0 0) 32 0 1), T)) rfl ?_
    exact xj_E.ret rfl rfl rfl rfl (h _ _ rfl)
