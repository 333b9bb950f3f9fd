/-! a method that stores: our machine does so -/
set_option maxHeartbeats 4000000 in
set_option maxRecDepth 100000 in
theorem ok_m_create {L : Nat} {xs : Nat → Int32} {T : Nat → Nat → Int64} {D : Nat} {S : (Nat → Nat → Int32)} {P : (Option Value ⊕ Nat) → xj_W → Nat → Nat → Prop} {a b : Int32} (hD : 2 ≤ D) (hd : d_m_create a b S) (h : ∀ v S9, (v, S9) = f_m_create a b S → P (.inl none) (SH, S9, T) 0 0) : xj_E (xX L xs) D 83 0 [(0, .ref 32), (1, .int a), (2, .int b)] [] (SH, S, T) P := by
  unfold d_m_create at hd
  unfold f_m_create at h
  obtain ⟨D1, rfl⟩ : ∃ D1, D = D1 + 1 := ⟨D - 1, by omega⟩
  refine xj_E.adv 3 (pc' := (if xj_cmp .eq (S 32 38) 0 = true then 8 else 7)) (ls' := [(0, .ref 32), (1, .int a), (2, .int b)]) (st' := []) (w' := (SH, S, T)) rfl ?_
  refine xj_E.b_eq (fun q => ?_) (fun q => ?_)
  · have hd := hd.1 q
    have h := fun v S9 e => h v S9 (Eq.trans e (if_pos q).symm)
    refine xj_E.adv 4 (pc' := (if xj_cmp .ne (S 32 17) 40 = true then 23 else 17)) (ls' := [(0, .ref 32), (1, .int a), (2, .int b)]) (st' := []) (w' := (SH, S, T)) rfl ?_
    refine xj_E.b_ne (fun q => ?_) (fun q => ?_)
    · have hd := hd.1 q
      have h := fun v S9 e => h v S9 (Eq.trans e (if_pos q).symm)
      refine xj_E.adv 7 (pc' := 34) (ls' := [(3, .int (S 32 17)), (0, .ref 32), (1, .int a), (2, .int b)]) (st' := [.int 0, .int (S 32 17), .ref 48]) (w' := (SH, S, T)) rfl ?_
      refine xj_E.iast rfl rfl hd.1 ?_
      have hd := hd.2
      refine xj_E.adv 3 (pc' := 38) (ls' := [(3, .int (S 32 17)), (0, .ref 32), (1, .int a), (2, .int b)]) (st' := [.int 0, .int (S 32 17), .ref 32]) (w' := (SH, (xj_set S 48 (S 32 17).toNatClampNeg 0), T)) rfl ?_
      refine xj_E.calli (d := D1) (S := SH) rfl rfl rfl rfl rfl (ok_m_book (by omega) hd.1 ?_)
      intro v1 S1 e1
      refine ⟨_, _, _, rfl, rfl, rfl, rfl, ?_⟩
      have hd := hd.2
      generalize f_m_book (S 32 17) 0 (xj_set S 48 (S 32 17).toNatClampNeg 0) = Xe1 at e1 hd h
      subst e1
      have h : ∀ v S9, (v, S9) = ((if v1 ≠ 0 then (match f_m_mark (S 32 17) 0 (xj_set (xj_set (xj_set (xj_set (xj_set S1 32 17 ((S1 32 17) + 1)) 45 (S 32 17).toNatClampNeg a) 46 (S 32 17).toNatClampNeg b) 47 (S 32 17).toNatClampNeg 0) 49 (S 32 17).toNatClampNeg 0) with | (_, S2) => (0, S2)) else ((0, S1))) : Int32 × (Nat → Nat → Int32)) → P (.inl none) (SH, S9, T) 0 0 := h
      refine xj_E.adv 1 (pc' := (if xj_cmp .ne v1 0 = true then 45 else 44)) (ls' := [(3, .int (S 32 17)), (0, .ref 32), (1, .int a), (2, .int b)]) (st' := []) (w' := (SH, S1, T)) rfl ?_
      refine xj_E.b_ne (fun q => ?_) (fun q => ?_)
      · have hd := hd.1 q
        have h := fun v S9 e => h v S9 (Eq.trans e (if_pos q).symm)
        refine xj_E.adv 10 (pc' := 61) (ls' := [(3, .int (S 32 17)), (0, .ref 32), (1, .int a), (2, .int b)]) (st' := [.int a, .int (S 32 17), .ref 45]) (w' := (SH, (xj_set S1 32 17 ((S1 32 17) + 1)), T)) rfl ?_
        refine xj_E.iast rfl rfl hd.1 ?_
        have hd := hd.2
        refine xj_E.adv 4 (pc' := 68) (ls' := [(3, .int (S 32 17)), (0, .ref 32), (1, .int a), (2, .int b)]) (st' := [.int b, .int (S 32 17), .ref 46]) (w' := (SH, (xj_set (xj_set S1 32 17 ((S1 32 17) + 1)) 45 (S 32 17).toNatClampNeg a), T)) rfl ?_
        refine xj_E.iast rfl rfl hd.1 ?_
        have hd := hd.2
        refine xj_E.adv 4 (pc' := 75) (ls' := [(3, .int (S 32 17)), (0, .ref 32), (1, .int a), (2, .int b)]) (st' := [.int 0, .int (S 32 17), .ref 47]) (w' := (SH, (xj_set (xj_set (xj_set S1 32 17 ((S1 32 17) + 1)) 45 (S 32 17).toNatClampNeg a) 46 (S 32 17).toNatClampNeg b), T)) rfl ?_
        refine xj_E.iast rfl rfl hd.1 ?_
        have hd := hd.2
        refine xj_E.adv 4 (pc' := 82) (ls' := [(3, .int (S 32 17)), (0, .ref 32), (1, .int a), (2, .int b)]) (st' := [.int 0, .int (S 32 17), .ref 49]) (w' := (SH, (xj_set (xj_set (xj_set (xj_set S1 32 17 ((S1 32 17) + 1)) 45 (S 32 17).toNatClampNeg a) 46 (S 32 17).toNatClampNeg b) 47 (S 32 17).toNatClampNeg 0), T)) rfl ?_
        refine xj_E.iast rfl rfl hd.1 ?_
        have hd := hd.2
        refine xj_E.adv 3 (pc' := 86) (ls' := [(3, .int (S 32 17)), (0, .ref 32), (1, .int a), (2, .int b)]) (st' := [.int 0, .int (S 32 17), .ref 32]) (w' := (SH, (xj_set (xj_set (xj_set (xj_set (xj_set S1 32 17 ((S1 32 17) + 1)) 45 (S 32 17).toNatClampNeg a) 46 (S 32 17).toNatClampNeg b) 47 (S 32 17).toNatClampNeg 0) 49 (S 32 17).toNatClampNeg 0), T)) rfl ?_
        refine xj_E.callv (d := D1) (S := SH) rfl rfl rfl rfl rfl (ok_m_mark (by omega) hd.1 ?_)
        intro v2 S2 e2
        refine ⟨_, _, rfl, rfl, rfl, rfl, ?_⟩
        have hd := hd.2
        generalize f_m_mark (S 32 17) 0 (xj_set (xj_set (xj_set (xj_set (xj_set S1 32 17 ((S1 32 17) + 1)) 45 (S 32 17).toNatClampNeg a) 46 (S 32 17).toNatClampNeg b) 47 (S 32 17).toNatClampNeg 0) 49 (S 32 17).toNatClampNeg 0) = Xe2 at e2 hd h
        subst e2
        exact xj_E.ret rfl rfl rfl rfl (h _ _ rfl)
      · have hd := hd.2 q
        have h := fun v S9 e => h v S9 (Eq.trans e (if_neg q).symm)
        exact xj_E.ret rfl rfl rfl rfl (h _ _ rfl)
    · have hd := hd.2 q
      have h := fun v S9 e => h v S9 (Eq.trans e (if_neg q).symm)
      refine xj_E.adv 3 (pc' := 22) (ls' := [(0, .ref 32), (1, .int a), (2, .int b)]) (st' := []) (w' := (SH, (xj_set S 32 38 1), T)) rfl ?_
      exact xj_E.ret rfl rfl rfl rfl (h _ _ rfl)
  · have hd := hd.2 q
    have h := fun v S9 e => h v S9 (Eq.trans e (if_neg q).symm)
    exact xj_E.ret rfl rfl rfl rfl (h _ _ rfl)
