/-! a method that stores: our machine does so -/
set_option maxHeartbeats 4000000 in
set_option maxRecDepth 100000 in
theorem okk_m_keep {L : Nat} {xs : Nat → Int32} {T : Nat → Nat → Int64} (n : Nat) : (∀ (u1 : Int32) S D (P : (Option Value ⊕ Nat) → xj_W → Nat → Nat → Prop), 0 ≤ D → (dk_m_keep n).1 u1 S → (∀ v S9, (v, S9) = (fk_m_keep n).1 u1 S → P (.inl none) (SH, S9, T) 0 0) → xj_E (xX L xs) D 98 18 [(0, .ref 32), (1, .int u1)] [] (SH, S, T) P) ∧
    (∀ (u1 : Int32) S D (P : (Option Value ⊕ Nat) → xj_W → Nat → Nat → Prop), 0 ≤ D → (dk_m_keep n).2.1 u1 S → (∀ v S9, (v, S9) = (fk_m_keep n).2.1 u1 S → P (.inl none) (SH, S9, T) 0 0) → xj_E (xX L xs) D 98 92 [(0, .ref 32), (1, .int u1)] [] (SH, S, T) P) ∧
    (∀ (u1 : Int32) S D (P : (Option Value ⊕ Nat) → xj_W → Nat → Nat → Prop), 0 ≤ D → (dk_m_keep n).2.2 u1 S → (∀ v S9, (v, S9) = (fk_m_keep n).2.2 u1 S → P (.inl none) (SH, S9, T) 0 0) → xj_E (xX L xs) D 98 117 [(0, .ref 32), (1, .int u1)] [] (SH, S, T) P) := by
  induction n with
  | zero => exact ⟨fun _ _ _ _ _ hd _ => hd.elim, fun _ _ _ _ _ hd _ => hd.elim, fun _ _ _ _ _ hd _ => hd.elim⟩
  | succ n ih =>
    refine ⟨?_, ?_, ?_⟩
    · intro u1 S D P hD hd h
      have h : ∀ v S9, (v, S9) = ((if 40 ≤ u1 then ((fk_m_keep n).2.1 0 S) else ((fk_m_keep n).1 (u1 + 1) (xj_set (xj_set (xj_set (xj_set (xj_set S 53 u1.toNatClampNeg (S 45 u1.toNatClampNeg)) 54 u1.toNatClampNeg (S 46 u1.toNatClampNeg)) 55 u1.toNatClampNeg (S 47 u1.toNatClampNeg)) 56 u1.toNatClampNeg (S 48 u1.toNatClampNeg)) 57 u1.toNatClampNeg (S 49 u1.toNatClampNeg)))) : Int32 × (Nat → Nat → Int32)) → P (.inl none) (SH, S9, T) 0 0 := h
      refine xj_E.adv 3 (pc' := (if xj_cmp .ge u1 40 = true then 90 else 24)) (ls' := [(0, .ref 32), (1, .int u1)]) (st' := []) (w' := (SH, S, T)) rfl ?_
      refine xj_E.b_ge (fun q => ?_) (fun q => ?_)
      · have hd := hd.1 q
        have h := fun v S9 e => h v S9 (Eq.trans e (if_pos q).symm)
        refine xj_E.adv 2 (pc' := 92) (ls' := [(1, .int 0), (0, .ref 32)]) (st' := []) (w' := (SH, S, T)) rfl ?_
        refine xj_E.loc [0, 1] xhth rfl (show xj_E (xX L xs) D 98 92 [(0, .ref 32), (1, .int 0)] [] (SH, S, T) P from ?_)
        exact (ih.2.1) _ _ _ _ (by omega) hd h
      · have hd := hd.2 q
        have h := fun v S9 e => h v S9 (Eq.trans e (if_neg q).symm)
        refine xj_E.adv 6 (pc' := 34) (ls' := [(0, .ref 32), (1, .int u1)]) (st' := [.int u1, .ref 45, .int u1, .ref 53]) (w' := (SH, S, T)) rfl ?_
        refine xj_E.iald rfl rfl hd.1 ?_
        have hd := hd.2
        refine xj_E.iast rfl rfl hd.1 ?_
        have hd := hd.2
        refine xj_E.adv 6 (pc' := 46) (ls' := [(0, .ref 32), (1, .int u1)]) (st' := [.int u1, .ref 46, .int u1, .ref 54]) (w' := (SH, (xj_set S 53 u1.toNatClampNeg (S 45 u1.toNatClampNeg)), T)) rfl ?_
        refine xj_E.iald rfl rfl hd.1 ?_
        have hd := hd.2
        refine xj_E.iast rfl rfl hd.1 ?_
        have hd := hd.2
        refine xj_E.adv 6 (pc' := 58) (ls' := [(0, .ref 32), (1, .int u1)]) (st' := [.int u1, .ref 47, .int u1, .ref 55]) (w' := (SH, (xj_set (xj_set S 53 u1.toNatClampNeg (S 45 u1.toNatClampNeg)) 54 u1.toNatClampNeg (S 46 u1.toNatClampNeg)), T)) rfl ?_
        refine xj_E.iald rfl rfl hd.1 ?_
        have hd := hd.2
        refine xj_E.iast rfl rfl hd.1 ?_
        have hd := hd.2
        refine xj_E.adv 6 (pc' := 70) (ls' := [(0, .ref 32), (1, .int u1)]) (st' := [.int u1, .ref 48, .int u1, .ref 56]) (w' := (SH, (xj_set (xj_set (xj_set S 53 u1.toNatClampNeg (S 45 u1.toNatClampNeg)) 54 u1.toNatClampNeg (S 46 u1.toNatClampNeg)) 55 u1.toNatClampNeg (S 47 u1.toNatClampNeg)), T)) rfl ?_
        refine xj_E.iald rfl rfl hd.1 ?_
        have hd := hd.2
        refine xj_E.iast rfl rfl hd.1 ?_
        have hd := hd.2
        refine xj_E.adv 6 (pc' := 82) (ls' := [(0, .ref 32), (1, .int u1)]) (st' := [.int u1, .ref 49, .int u1, .ref 57]) (w' := (SH, (xj_set (xj_set (xj_set (xj_set S 53 u1.toNatClampNeg (S 45 u1.toNatClampNeg)) 54 u1.toNatClampNeg (S 46 u1.toNatClampNeg)) 55 u1.toNatClampNeg (S 47 u1.toNatClampNeg)) 56 u1.toNatClampNeg (S 48 u1.toNatClampNeg)), T)) rfl ?_
        refine xj_E.iald rfl rfl hd.1 ?_
        have hd := hd.2
        refine xj_E.iast rfl rfl hd.1 ?_
        have hd := hd.2
        refine xj_E.adv 2 (pc' := 18) (ls' := [(1, .int (u1 + 1)), (0, .ref 32)]) (st' := []) (w' := (SH, (xj_set (xj_set (xj_set (xj_set (xj_set S 53 u1.toNatClampNeg (S 45 u1.toNatClampNeg)) 54 u1.toNatClampNeg (S 46 u1.toNatClampNeg)) 55 u1.toNatClampNeg (S 47 u1.toNatClampNeg)) 56 u1.toNatClampNeg (S 48 u1.toNatClampNeg)) 57 u1.toNatClampNeg (S 49 u1.toNatClampNeg)), T)) rfl ?_
        refine xj_E.loc [0, 1] xhth rfl (show xj_E (xX L xs) D 98 18 [(0, .ref 32), (1, .int (u1 + 1))] [] (SH, (xj_set (xj_set (xj_set (xj_set (xj_set S 53 u1.toNatClampNeg (S 45 u1.toNatClampNeg)) 54 u1.toNatClampNeg (S 46 u1.toNatClampNeg)) 55 u1.toNatClampNeg (S 47 u1.toNatClampNeg)) 56 u1.toNatClampNeg (S 48 u1.toNatClampNeg)) 57 u1.toNatClampNeg (S 49 u1.toNatClampNeg)), T) P from ?_)
        exact (ih.1) _ _ _ _ (by omega) hd h
    · intro u1 S D P hD hd h
      have h : ∀ v S9, (v, S9) = ((if 4 ≤ u1 then ((fk_m_keep n).2.2 0 S) else ((fk_m_keep n).2.1 (u1 + 1) (xj_set S 58 u1.toNatClampNeg (S 50 u1.toNatClampNeg)))) : Int32 × (Nat → Nat → Int32)) → P (.inl none) (SH, S9, T) 0 0 := h
      refine xj_E.adv 3 (pc' := (if xj_cmp .ge u1 4 = true then 115 else 97)) (ls' := [(0, .ref 32), (1, .int u1)]) (st' := []) (w' := (SH, S, T)) rfl ?_
      refine xj_E.b_ge (fun q => ?_) (fun q => ?_)
      · have hd := hd.1 q
        have h := fun v S9 e => h v S9 (Eq.trans e (if_pos q).symm)
        refine xj_E.adv 2 (pc' := 117) (ls' := [(1, .int 0), (0, .ref 32)]) (st' := []) (w' := (SH, S, T)) rfl ?_
        refine xj_E.loc [0, 1] xhth rfl (show xj_E (xX L xs) D 98 117 [(0, .ref 32), (1, .int 0)] [] (SH, S, T) P from ?_)
        exact (ih.2.2) _ _ _ _ (by omega) hd h
      · have hd := hd.2 q
        have h := fun v S9 e => h v S9 (Eq.trans e (if_neg q).symm)
        refine xj_E.adv 6 (pc' := 107) (ls' := [(0, .ref 32), (1, .int u1)]) (st' := [.int u1, .ref 50, .int u1, .ref 58]) (w' := (SH, S, T)) rfl ?_
        refine xj_E.iald rfl rfl hd.1 ?_
        have hd := hd.2
        refine xj_E.iast rfl rfl hd.1 ?_
        have hd := hd.2
        refine xj_E.adv 2 (pc' := 92) (ls' := [(1, .int (u1 + 1)), (0, .ref 32)]) (st' := []) (w' := (SH, (xj_set S 58 u1.toNatClampNeg (S 50 u1.toNatClampNeg)), T)) rfl ?_
        refine xj_E.loc [0, 1] xhth rfl (show xj_E (xX L xs) D 98 92 [(0, .ref 32), (1, .int (u1 + 1))] [] (SH, (xj_set S 58 u1.toNatClampNeg (S 50 u1.toNatClampNeg)), T) P from ?_)
        exact (ih.2.1) _ _ _ _ (by omega) hd h
    · intro u1 S D P hD hd h
      have h : ∀ v S9, (v, S9) = ((if 48 ≤ u1 then ((0, (xj_set (xj_set S 32 37 0) 32 38 0))) else ((fk_m_keep n).2.2 (u1 + 1) (xj_set (xj_set S 59 u1.toNatClampNeg (S 51 u1.toNatClampNeg)) 60 u1.toNatClampNeg (S 52 u1.toNatClampNeg)))) : Int32 × (Nat → Nat → Int32)) → P (.inl none) (SH, S9, T) 0 0 := h
      refine xj_E.adv 3 (pc' := (if xj_cmp .ge u1 48 = true then 153 else 123)) (ls' := [(0, .ref 32), (1, .int u1)]) (st' := []) (w' := (SH, S, T)) rfl ?_
      refine xj_E.b_ge (fun q => ?_) (fun q => ?_)
      · have hd := hd.1 q
        have h := fun v S9 e => h v S9 (Eq.trans e (if_pos q).symm)
        refine xj_E.adv 6 (pc' := 163) (ls' := [(0, .ref 32), (1, .int u1)]) (st' := []) (w' := (SH, (xj_set (xj_set S 32 37 0) 32 38 0), T)) rfl ?_
        exact xj_E.ret rfl rfl rfl rfl (h _ _ rfl)
      · have hd := hd.2 q
        have h := fun v S9 e => h v S9 (Eq.trans e (if_neg q).symm)
        refine xj_E.adv 6 (pc' := 133) (ls' := [(0, .ref 32), (1, .int u1)]) (st' := [.int u1, .ref 51, .int u1, .ref 59]) (w' := (SH, S, T)) rfl ?_
        refine xj_E.iald rfl rfl hd.1 ?_
        have hd := hd.2
        refine xj_E.iast rfl rfl hd.1 ?_
        have hd := hd.2
        refine xj_E.adv 6 (pc' := 145) (ls' := [(0, .ref 32), (1, .int u1)]) (st' := [.int u1, .ref 52, .int u1, .ref 60]) (w' := (SH, (xj_set S 59 u1.toNatClampNeg (S 51 u1.toNatClampNeg)), T)) rfl ?_
        refine xj_E.iald rfl rfl hd.1 ?_
        have hd := hd.2
        refine xj_E.iast rfl rfl hd.1 ?_
        have hd := hd.2
        refine xj_E.adv 2 (pc' := 117) (ls' := [(1, .int (u1 + 1)), (0, .ref 32)]) (st' := []) (w' := (SH, (xj_set (xj_set S 59 u1.toNatClampNeg (S 51 u1.toNatClampNeg)) 60 u1.toNatClampNeg (S 52 u1.toNatClampNeg)), T)) rfl ?_
        refine xj_E.loc [0, 1] xhth rfl (show xj_E (xX L xs) D 98 117 [(0, .ref 32), (1, .int (u1 + 1))] [] (SH, (xj_set (xj_set S 59 u1.toNatClampNeg (S 51 u1.toNatClampNeg)) 60 u1.toNatClampNeg (S 52 u1.toNatClampNeg)), T) P from ?_)
        exact (ih.2.2) _ _ _ _ (by omega) hd h
