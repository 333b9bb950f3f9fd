/-! a method that stores: our machine does so -/
set_option maxHeartbeats 4000000 in
set_option maxRecDepth 100000 in
theorem ok_m_again {L : Nat} {xs : Nat → Int32} {T : Nat → Nat → Int64} {D : Nat} {S : (Nat → Nat → Int32)} {P : (Option Value ⊕ Nat) → xj_W → Nat → Nat → Prop} {a b : Int32} (hD : 3 ≤ D) (hd : d_m_again a b S) (h : ∀ v S9, (v, S9) = f_m_again a b S → P (.inl none) (SH, S9, T) 0 0) : xj_E (xX L xs) D 86 0 [(0, .ref 32), (1, .int a), (2, .int b)] [] (SH, S, T) P := by
  unfold d_m_again at hd
  unfold f_m_again at h
  obtain ⟨D1, rfl⟩ : ∃ D1, D = D1 + 1 := ⟨D - 1, by omega⟩
  refine xj_E.adv 3 (pc' := (if xj_cmp .eq b 3 = true then 10 else 5)) (ls' := [(0, .ref 32), (1, .int a), (2, .int b)]) (st' := []) (w' := (SH, S, T)) rfl ?_
  refine xj_E.b_eq (fun q => ?_) (fun q => ?_)
  · have hd := hd.1 q
    have h := fun v S9 e => h v S9 (Eq.trans e (if_pos q).symm)
    refine xj_E.adv 3 (pc' := 13) (ls' := [(0, .ref 32), (1, .int a), (2, .int b)]) (st' := [.int 1, .int a, .ref 32]) (w' := (SH, S, T)) rfl ?_
    refine xj_E.calli (d := D1) (S := SH) rfl rfl rfl rfl rfl (xj_E.deep (ok_m_hasFlag (d := 0) hd.1 ?_) (by omega))
    intro w1 f1
    refine ⟨_, _, _, rfl, rfl, rfl, rfl, ?_⟩
    have hd := hd.2
    rw [← f1] at hd
    have h : ∀ v S9, (v, S9) = ((if (r_m_hasFlag S a 1) = 0 then ((0, S)) else (if (r_m_hasEntry S a) ≠ 0 then ((0, S)) else (if (r_m_parentActive S a) = 0 then ((0, S)) else (match f_m_create (S 45 a.toNatClampNeg) (S 46 a.toNatClampNeg) S with | (_, S1) => (0, S1))))) : Int32 × (Nat → Nat → Int32)) → P (.inl none) (SH, S9, T) 0 0 := h
    rw [← f1] at h
    refine xj_E.adv 1 (pc' := (if xj_cmp .eq w1 0 = true then 51 else 19)) (ls' := [(0, .ref 32), (1, .int a), (2, .int b)]) (st' := []) (w' := (SH, S, T)) rfl ?_
    refine xj_E.b_eq (fun q => ?_) (fun q => ?_)
    · have hd := hd.1 q
      have h := fun v S9 e => h v S9 (Eq.trans e (if_pos q).symm)
      exact xj_E.ret rfl rfl rfl rfl (h _ _ rfl)
    · have hd := hd.2 q
      have h := fun v S9 e => h v S9 (Eq.trans e (if_neg q).symm)
      refine xj_E.adv 2 (pc' := 21) (ls' := [(0, .ref 32), (1, .int a), (2, .int b)]) (st' := [.int a, .ref 32]) (w' := (SH, S, T)) rfl ?_
      refine xj_E.calli (d := D1) (S := SH) rfl rfl rfl rfl rfl (xj_E.deep (ok_m_hasEntry (d := 0) hd.1 ?_) (by omega))
      intro w2 f2
      refine ⟨_, _, _, rfl, rfl, rfl, rfl, ?_⟩
      have hd := hd.2
      rw [← f2] at hd
      have h : ∀ v S9, (v, S9) = ((if (r_m_hasEntry S a) ≠ 0 then ((0, S)) else (if (r_m_parentActive S a) = 0 then ((0, S)) else (match f_m_create (S 45 a.toNatClampNeg) (S 46 a.toNatClampNeg) S with | (_, S1) => (0, S1)))) : Int32 × (Nat → Nat → Int32)) → P (.inl none) (SH, S9, T) 0 0 := h
      rw [← f2] at h
      refine xj_E.adv 1 (pc' := (if xj_cmp .ne w2 0 = true then 51 else 27)) (ls' := [(0, .ref 32), (1, .int a), (2, .int b)]) (st' := []) (w' := (SH, S, T)) rfl ?_
      refine xj_E.b_ne (fun q => ?_) (fun q => ?_)
      · have hd := hd.1 q
        have h := fun v S9 e => h v S9 (Eq.trans e (if_pos q).symm)
        exact xj_E.ret rfl rfl rfl rfl (h _ _ rfl)
      · have hd := hd.2 q
        have h := fun v S9 e => h v S9 (Eq.trans e (if_neg q).symm)
        refine xj_E.adv 2 (pc' := 29) (ls' := [(0, .ref 32), (1, .int a), (2, .int b)]) (st' := [.int a, .ref 32]) (w' := (SH, S, T)) rfl ?_
        refine xj_E.calli (d := D1) (S := SH) rfl rfl rfl rfl rfl (xj_E.deep (ok_m_parentActive (d := 0) hd.1 ?_) (by omega))
        intro w3 f3
        refine ⟨_, _, _, rfl, rfl, rfl, rfl, ?_⟩
        have hd := hd.2
        rw [← f3] at hd
        have h : ∀ v S9, (v, S9) = ((if (r_m_parentActive S a) = 0 then ((0, S)) else (match f_m_create (S 45 a.toNatClampNeg) (S 46 a.toNatClampNeg) S with | (_, S1) => (0, S1))) : Int32 × (Nat → Nat → Int32)) → P (.inl none) (SH, S9, T) 0 0 := h
        rw [← f3] at h
        refine xj_E.adv 1 (pc' := (if xj_cmp .eq w3 0 = true then 51 else 35)) (ls' := [(0, .ref 32), (1, .int a), (2, .int b)]) (st' := []) (w' := (SH, S, T)) rfl ?_
        refine xj_E.b_eq (fun q => ?_) (fun q => ?_)
        · have hd := hd.1 q
          have h := fun v S9 e => h v S9 (Eq.trans e (if_pos q).symm)
          exact xj_E.ret rfl rfl rfl rfl (h _ _ rfl)
        · have hd := hd.2 q
          have h := fun v S9 e => h v S9 (Eq.trans e (if_neg q).symm)
          refine xj_E.adv 4 (pc' := 41) (ls' := [(0, .ref 32), (1, .int a), (2, .int b)]) (st' := [.int a, .ref 45, .ref 32]) (w' := (SH, S, T)) rfl ?_
          refine xj_E.iald rfl rfl hd.1 ?_
          have hd := hd.2
          refine xj_E.adv 3 (pc' := 47) (ls' := [(0, .ref 32), (1, .int a), (2, .int b)]) (st' := [.int a, .ref 46, .int (S 45 a.toNatClampNeg), .ref 32]) (w' := (SH, S, T)) rfl ?_
          refine xj_E.iald rfl rfl hd.1 ?_
          have hd := hd.2
          refine xj_E.callv (d := D1) (S := SH) rfl rfl rfl rfl rfl (ok_m_create (by omega) hd.1 ?_)
          intro v1 S1 e1
          refine ⟨_, _, rfl, rfl, rfl, rfl, ?_⟩
          have hd := hd.2
          generalize f_m_create (S 45 a.toNatClampNeg) (S 46 a.toNatClampNeg) S = Xe1 at e1 hd h
          subst e1
          exact xj_E.ret rfl rfl rfl rfl (h _ _ rfl)
  · have hd := hd.2 q
    have h := fun v S9 e => h v S9 (Eq.trans e (if_neg q).symm)
    refine xj_E.adv 3 (pc' := (if xj_cmp .ne b 4 = true then 51 else 10)) (ls' := [(0, .ref 32), (1, .int a), (2, .int b)]) (st' := []) (w' := (SH, S, T)) rfl ?_
    refine xj_E.b_ne (fun q => ?_) (fun q => ?_)
    · have hd := hd.1 q
      have h := fun v S9 e => h v S9 (Eq.trans e (if_pos q).symm)
      exact xj_E.ret rfl rfl rfl rfl (h _ _ rfl)
    · have hd := hd.2 q
      have h := fun v S9 e => h v S9 (Eq.trans e (if_neg q).symm)
      refine xj_E.adv 3 (pc' := 13) (ls' := [(0, .ref 32), (1, .int a), (2, .int b)]) (st' := [.int 1, .int a, .ref 32]) (w' := (SH, S, T)) rfl ?_
      refine xj_E.calli (d := D1) (S := SH) rfl rfl rfl rfl rfl (xj_E.deep (ok_m_hasFlag (d := 0) hd.1 ?_) (by omega))
      intro w4 f4
      refine ⟨_, _, _, rfl, rfl, rfl, rfl, ?_⟩
      have hd := hd.2
      rw [← f4] at hd
      have h : ∀ v S9, (v, S9) = ((if (r_m_hasFlag S a 1) = 0 then ((0, S)) else (if (r_m_hasEntry S a) ≠ 0 then ((0, S)) else (if (r_m_parentActive S a) = 0 then ((0, S)) else (match f_m_create (S 45 a.toNatClampNeg) (S 46 a.toNatClampNeg) S with | (_, S2) => (0, S2))))) : Int32 × (Nat → Nat → Int32)) → P (.inl none) (SH, S9, T) 0 0 := h
      rw [← f4] at h
      refine xj_E.adv 1 (pc' := (if xj_cmp .eq w4 0 = true then 51 else 19)) (ls' := [(0, .ref 32), (1, .int a), (2, .int b)]) (st' := []) (w' := (SH, S, T)) rfl ?_
      refine xj_E.b_eq (fun q => ?_) (fun q => ?_)
      · have hd := hd.1 q
        have h := fun v S9 e => h v S9 (Eq.trans e (if_pos q).symm)
        exact xj_E.ret rfl rfl rfl rfl (h _ _ rfl)
      · have hd := hd.2 q
        have h := fun v S9 e => h v S9 (Eq.trans e (if_neg q).symm)
        refine xj_E.adv 2 (pc' := 21) (ls' := [(0, .ref 32), (1, .int a), (2, .int b)]) (st' := [.int a, .ref 32]) (w' := (SH, S, T)) rfl ?_
        refine xj_E.calli (d := D1) (S := SH) rfl rfl rfl rfl rfl (xj_E.deep (ok_m_hasEntry (d := 0) hd.1 ?_) (by omega))
        intro w5 f5
        refine ⟨_, _, _, rfl, rfl, rfl, rfl, ?_⟩
        have hd := hd.2
        rw [← f5] at hd
        have h : ∀ v S9, (v, S9) = ((if (r_m_hasEntry S a) ≠ 0 then ((0, S)) else (if (r_m_parentActive S a) = 0 then ((0, S)) else (match f_m_create (S 45 a.toNatClampNeg) (S 46 a.toNatClampNeg) S with | (_, S2) => (0, S2)))) : Int32 × (Nat → Nat → Int32)) → P (.inl none) (SH, S9, T) 0 0 := h
        rw [← f5] at h
        refine xj_E.adv 1 (pc' := (if xj_cmp .ne w5 0 = true then 51 else 27)) (ls' := [(0, .ref 32), (1, .int a), (2, .int b)]) (st' := []) (w' := (SH, S, T)) rfl ?_
        refine xj_E.b_ne (fun q => ?_) (fun q => ?_)
        · have hd := hd.1 q
          have h := fun v S9 e => h v S9 (Eq.trans e (if_pos q).symm)
          exact xj_E.ret rfl rfl rfl rfl (h _ _ rfl)
        · have hd := hd.2 q
          have h := fun v S9 e => h v S9 (Eq.trans e (if_neg q).symm)
          refine xj_E.adv 2 (pc' := 29) (ls' := [(0, .ref 32), (1, .int a), (2, .int b)]) (st' := [.int a, .ref 32]) (w' := (SH, S, T)) rfl ?_
          refine xj_E.calli (d := D1) (S := SH) rfl rfl rfl rfl rfl (xj_E.deep (ok_m_parentActive (d := 0) hd.1 ?_) (by omega))
          intro w6 f6
          refine ⟨_, _, _, rfl, rfl, rfl, rfl, ?_⟩
          have hd := hd.2
          rw [← f6] at hd
          have h : ∀ v S9, (v, S9) = ((if (r_m_parentActive S a) = 0 then ((0, S)) else (match f_m_create (S 45 a.toNatClampNeg) (S 46 a.toNatClampNeg) S with | (_, S2) => (0, S2))) : Int32 × (Nat → Nat → Int32)) → P (.inl none) (SH, S9, T) 0 0 := h
          rw [← f6] at h
          refine xj_E.adv 1 (pc' := (if xj_cmp .eq w6 0 = true then 51 else 35)) (ls' := [(0, .ref 32), (1, .int a), (2, .int b)]) (st' := []) (w' := (SH, S, T)) rfl ?_
          refine xj_E.b_eq (fun q => ?_) (fun q => ?_)
          · have hd := hd.1 q
            have h := fun v S9 e => h v S9 (Eq.trans e (if_pos q).symm)
            exact xj_E.ret rfl rfl rfl rfl (h _ _ rfl)
          · have hd := hd.2 q
            have h := fun v S9 e => h v S9 (Eq.trans e (if_neg q).symm)
            refine xj_E.adv 4 (pc' := 41) (ls' := [(0, .ref 32), (1, .int a), (2, .int b)]) (st' := [.int a, .ref 45, .ref 32]) (w' := (SH, S, T)) rfl ?_
            refine xj_E.iald rfl rfl hd.1 ?_
            have hd := hd.2
            refine xj_E.adv 3 (pc' := 47) (ls' := [(0, .ref 32), (1, .int a), (2, .int b)]) (st' := [.int a, .ref 46, .int (S 45 a.toNatClampNeg), .ref 32]) (w' := (SH, S, T)) rfl ?_
            refine xj_E.iald rfl rfl hd.1 ?_
            have hd := hd.2
            refine xj_E.callv (d := D1) (S := SH) rfl rfl rfl rfl rfl (ok_m_create (by omega) hd.1 ?_)
            intro v2 S2 e2
            refine ⟨_, _, rfl, rfl, rfl, rfl, ?_⟩
            have hd := hd.2
            generalize f_m_create (S 45 a.toNatClampNeg) (S 46 a.toNatClampNeg) S = Xe2 at e2 hd h
            subst e2
            exact xj_E.ret rfl rfl rfl rfl (h _ _ rfl)
