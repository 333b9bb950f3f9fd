/-! a method that stores: our machine does so -/
set_option maxHeartbeats 4000000 in
set_option maxRecDepth 100000 in
theorem okk_m_markVariable {L : Nat} {xs : Nat → Int32} {T : Nat → Nat → Int64} (n : Nat) : (∀ (u1 : Int32) (u2 : Int32) S D (P : (Option Value ⊕ Nat) → xj_W → Nat → Nat → Prop), 1 ≤ D → (dk_m_markVariable n).1 u1 u2 S → (∀ v S9, (v, S9) = (fk_m_markVariable n).1 u1 u2 S → P (.inl none) (SH, S9, T) 0 0) → xj_E (xX L xs) D 106 2 [(0, .ref 32), (1, .int u1), (2, .int u2)] [] (SH, S, T) P) ∧
    (∀ (u1 : Int32) (u2 : Int32) (u3 : Int32) S D (P : (Option Value ⊕ Nat) → xj_W → Nat → Nat → Prop), 1 ≤ D → (dk_m_markVariable n).2.1 u1 u2 u3 S → (∀ v S9, (v, S9) = (fk_m_markVariable n).2.1 u1 u2 u3 S → P (.inl none) (SH, S9, T) 0 0) → xj_E (xX L xs) D 106 23 [(0, .ref 32), (1, .int u1), (2, .int u2), (3, .int u3)] [] (SH, S, T) P) ∧
    (∀ (u1 : Int32) (u2 : Int32) (u3 : Int32) (u4 : Int32) S D (P : (Option Value ⊕ Nat) → xj_W → Nat → Nat → Prop), 1 ≤ D → (dk_m_markVariable n).2.2 u1 u2 u3 u4 S → (∀ v S9, (v, S9) = (fk_m_markVariable n).2.2 u1 u2 u3 u4 S → P (.inl none) (SH, S9, T) 0 0) → xj_E (xX L xs) D 106 52 [(0, .ref 32), (1, .int u1), (2, .int u2), (3, .int u3), (4, .int u4)] [] (SH, S, T) P) := by
  induction n with
  | zero => exact ⟨fun _ _ _ _ _ _ hd _ => hd.elim, fun _ _ _ _ _ _ _ hd _ => hd.elim, fun _ _ _ _ _ _ _ _ hd _ => hd.elim⟩
  | succ n ih =>
    refine ⟨?_, ?_, ?_⟩
    · intro u1 u2 S D P hD hd h
      have h : ∀ v S9, (v, S9) = ((if (S 32 17) ≤ u2 then ((0, S)) else (if (r_m_isFinal S u2) = 0 then ((fk_m_markVariable n).2.1 u1 u2 0 S) else ((fk_m_markVariable n).1 u1 (u2 + 1) S))) : Int32 × (Nat → Nat → Int32)) → P (.inl none) (SH, S9, T) 0 0 := h
      obtain ⟨D1, rfl⟩ : ∃ D1, D = D1 + 1 := ⟨D - 1, by omega⟩
      refine xj_E.adv 4 (pc' := (if xj_cmp .ge u2 (S 32 17) = true then 120 else 10)) (ls' := [(0, .ref 32), (1, .int u1), (2, .int u2)]) (st' := []) (w' := (SH, S, T)) rfl ?_
      refine xj_E.b_ge (fun q => ?_) (fun q => ?_)
      · have hd := hd.1 q
        have h := fun v S9 e => h v S9 (Eq.trans e (if_pos q).symm)
        exact xj_E.ret rfl rfl rfl rfl (h _ _ rfl)
      · have hd := hd.2 q
        have h := fun v S9 e => h v S9 (Eq.trans e (if_neg q).symm)
        refine xj_E.adv 2 (pc' := 12) (ls' := [(0, .ref 32), (1, .int u1), (2, .int u2)]) (st' := [.int u2, .ref 32]) (w' := (SH, S, T)) rfl ?_
        refine xj_E.calli (d := D1) (S := SH) rfl rfl rfl rfl rfl (xj_E.deep (ok_m_isFinal (d := 0) hd.1 ?_) (by omega))
        intro w1 f1
        refine ⟨_, _, _, rfl, rfl, rfl, rfl, ?_⟩
        have hd := hd.2
        rw [← f1] at hd
        have h : ∀ v S9, (v, S9) = ((if (r_m_isFinal S u2) = 0 then ((fk_m_markVariable n).2.1 u1 u2 0 S) else ((fk_m_markVariable n).1 u1 (u2 + 1) S)) : Int32 × (Nat → Nat → Int32)) → P (.inl none) (SH, S9, T) 0 0 := h
        rw [← f1] at h
        refine xj_E.adv 1 (pc' := (if xj_cmp .eq w1 0 = true then 21 else 18)) (ls' := [(0, .ref 32), (1, .int u1), (2, .int u2)]) (st' := []) (w' := (SH, S, T)) rfl ?_
        refine xj_E.b_eq (fun q => ?_) (fun q => ?_)
        · have hd := hd.1 q
          have h := fun v S9 e => h v S9 (Eq.trans e (if_pos q).symm)
          refine xj_E.adv 2 (pc' := 23) (ls' := [(3, .int 0), (0, .ref 32), (1, .int u1), (2, .int u2)]) (st' := []) (w' := (SH, S, T)) rfl ?_
          refine xj_E.loc [0, 1, 2, 3] xhth rfl (show xj_E (xX L xs) (D1 + 1) 106 23 [(0, .ref 32), (1, .int u1), (2, .int u2), (3, .int 0)] [] (SH, S, T) P from ?_)
          exact (ih.2.1) _ _ _ _ _ _ (by omega) hd h
        · have hd := hd.2 q
          have h := fun v S9 e => h v S9 (Eq.trans e (if_neg q).symm)
          refine xj_E.adv 3 (pc' := 2) (ls' := [(2, .int (u2 + 1)), (0, .ref 32), (1, .int u1)]) (st' := []) (w' := (SH, S, T)) rfl ?_
          refine xj_E.loc [0, 1, 2] xhth rfl (show xj_E (xX L xs) (D1 + 1) 106 2 [(0, .ref 32), (1, .int u1), (2, .int (u2 + 1))] [] (SH, S, T) P from ?_)
          exact (ih.1) _ _ _ _ _ (by omega) hd h
    · intro u1 u2 u3 S D P hD hd h
      have h : ∀ v S9, (v, S9) = ((if (S 32 5) ≤ u3 then ((fk_m_markVariable n).1 u1 (u2 + 1) S) else (if (S 36 u3.toNatClampNeg) = (S 45 u2.toNatClampNeg) then ((fk_m_markVariable n).2.2 u1 u2 u3 0 S) else ((fk_m_markVariable n).2.1 u1 u2 (u3 + 1) S))) : Int32 × (Nat → Nat → Int32)) → P (.inl none) (SH, S9, T) 0 0 := h
      refine xj_E.adv 4 (pc' := (if xj_cmp .ge u3 (S 32 5) = true then 114 else 31)) (ls' := [(0, .ref 32), (1, .int u1), (2, .int u2), (3, .int u3)]) (st' := []) (w' := (SH, S, T)) rfl ?_
      refine xj_E.b_ge (fun q => ?_) (fun q => ?_)
      · have hd := hd.1 q
        have h := fun v S9 e => h v S9 (Eq.trans e (if_pos q).symm)
        refine xj_E.adv 2 (pc' := 2) (ls' := [(2, .int (u2 + 1)), (0, .ref 32), (1, .int u1), (3, .int u3)]) (st' := []) (w' := (SH, S, T)) rfl ?_
        refine xj_E.loc [0, 1, 2] xhth rfl (show xj_E (xX L xs) D 106 2 [(0, .ref 32), (1, .int u1), (2, .int (u2 + 1))] [] (SH, S, T) P from ?_)
        exact (ih.1) _ _ _ _ _ (by omega) hd h
      · have hd := hd.2 q
        have h := fun v S9 e => h v S9 (Eq.trans e (if_neg q).symm)
        refine xj_E.adv 3 (pc' := 36) (ls' := [(0, .ref 32), (1, .int u1), (2, .int u2), (3, .int u3)]) (st' := [.int u3, .ref 36]) (w' := (SH, S, T)) rfl ?_
        refine xj_E.iald rfl rfl hd.1 ?_
        have hd := hd.2
        refine xj_E.adv 3 (pc' := 42) (ls' := [(0, .ref 32), (1, .int u1), (2, .int u2), (3, .int u3)]) (st' := [.int u2, .ref 45, .int (S 36 u3.toNatClampNeg)]) (w' := (SH, S, T)) rfl ?_
        refine xj_E.iald rfl rfl hd.1 ?_
        have hd := hd.2
        refine xj_E.adv 1 (pc' := (if xj_cmp .eq (S 36 u3.toNatClampNeg) (S 45 u2.toNatClampNeg) = true then 49 else 46)) (ls' := [(0, .ref 32), (1, .int u1), (2, .int u2), (3, .int u3)]) (st' := []) (w' := (SH, S, T)) rfl ?_
        refine xj_E.b_eq (fun q => ?_) (fun q => ?_)
        · have hd := hd.1 q
          have h := fun v S9 e => h v S9 (Eq.trans e (if_pos q).symm)
          refine xj_E.adv 2 (pc' := 52) (ls' := [(4, .int 0), (0, .ref 32), (1, .int u1), (2, .int u2), (3, .int u3)]) (st' := []) (w' := (SH, S, T)) rfl ?_
          refine xj_E.loc [0, 1, 2, 3, 4] xhth rfl (show xj_E (xX L xs) D 106 52 [(0, .ref 32), (1, .int u1), (2, .int u2), (3, .int u3), (4, .int 0)] [] (SH, S, T) P from ?_)
          exact (ih.2.2) _ _ _ _ _ _ _ (by omega) hd h
        · have hd := hd.2 q
          have h := fun v S9 e => h v S9 (Eq.trans e (if_neg q).symm)
          refine xj_E.adv 3 (pc' := 23) (ls' := [(3, .int (u3 + 1)), (0, .ref 32), (1, .int u1), (2, .int u2)]) (st' := []) (w' := (SH, S, T)) rfl ?_
          refine xj_E.loc [0, 1, 2, 3] xhth rfl (show xj_E (xX L xs) D 106 23 [(0, .ref 32), (1, .int u1), (2, .int u2), (3, .int (u3 + 1))] [] (SH, S, T) P from ?_)
          exact (ih.2.1) _ _ _ _ _ _ (by omega) hd h
    · intro u1 u2 u3 u4 S D P hD hd h
      have h : ∀ v S9, (v, S9) = ((if (S 38 u3.toNatClampNeg) ≤ u4 then ((fk_m_markVariable n).2.1 u1 u2 (u3 + 1) S) else (if (S 39 ((2 * u3) + u4).toNatClampNeg) ≠ (100 + u1) then ((fk_m_markVariable n).2.2 u1 u2 u3 (u4 + 1) S) else ((fk_m_markVariable n).2.2 u1 u2 u3 (u4 + 1) (xj_set S 49 u2.toNatClampNeg ((S 49 u2.toNatClampNeg) ||| (1 <<< (((2 * u3) + u4) &&& 31))))))) : Int32 × (Nat → Nat → Int32)) → P (.inl none) (SH, S9, T) 0 0 := h
      refine xj_E.adv 4 (pc' := 59) (ls' := [(0, .ref 32), (1, .int u1), (2, .int u2), (3, .int u3), (4, .int u4)]) (st' := [.int u3, .ref 38, .int u4]) (w' := (SH, S, T)) rfl ?_
      refine xj_E.iald rfl rfl hd.1 ?_
      have hd := hd.2
      refine xj_E.adv 1 (pc' := (if xj_cmp .ge u4 (S 38 u3.toNatClampNeg) = true then 108 else 63)) (ls' := [(0, .ref 32), (1, .int u1), (2, .int u2), (3, .int u3), (4, .int u4)]) (st' := []) (w' := (SH, S, T)) rfl ?_
      refine xj_E.b_ge (fun q => ?_) (fun q => ?_)
      · have hd := hd.1 q
        have h := fun v S9 e => h v S9 (Eq.trans e (if_pos q).symm)
        refine xj_E.adv 2 (pc' := 23) (ls' := [(3, .int (u3 + 1)), (0, .ref 32), (1, .int u1), (2, .int u2), (4, .int u4)]) (st' := []) (w' := (SH, S, T)) rfl ?_
        refine xj_E.loc [0, 1, 2, 3] xhth rfl (show xj_E (xX L xs) D 106 23 [(0, .ref 32), (1, .int u1), (2, .int u2), (3, .int (u3 + 1))] [] (SH, S, T) P from ?_)
        exact (ih.2.1) _ _ _ _ _ _ (by omega) hd h
      · have hd := hd.2 q
        have h := fun v S9 e => h v S9 (Eq.trans e (if_neg q).symm)
        refine xj_E.adv 7 (pc' := 73) (ls' := [(0, .ref 32), (1, .int u1), (2, .int u2), (3, .int u3), (4, .int u4)]) (st' := [.int ((2 * u3) + u4), .ref 39]) (w' := (SH, S, T)) rfl ?_
        refine xj_E.iald rfl rfl hd.1 ?_
        have hd := hd.2
        refine xj_E.adv 4 (pc' := (if xj_cmp .ne (S 39 ((2 * u3) + u4).toNatClampNeg) (100 + u1) = true then 102 else 81)) (ls' := [(0, .ref 32), (1, .int u1), (2, .int u2), (3, .int u3), (4, .int u4)]) (st' := []) (w' := (SH, S, T)) rfl ?_
        refine xj_E.b_ne (fun q => ?_) (fun q => ?_)
        · have hd := hd.1 q
          have h := fun v S9 e => h v S9 (Eq.trans e (if_pos q).symm)
          refine xj_E.adv 2 (pc' := 52) (ls' := [(4, .int (u4 + 1)), (0, .ref 32), (1, .int u1), (2, .int u2), (3, .int u3)]) (st' := []) (w' := (SH, S, T)) rfl ?_
          refine xj_E.loc [0, 1, 2, 3, 4] xhth rfl (show xj_E (xX L xs) D 106 52 [(0, .ref 32), (1, .int u1), (2, .int u2), (3, .int u3), (4, .int (u4 + 1))] [] (SH, S, T) P from ?_)
          exact (ih.2.2) _ _ _ _ _ _ _ (by omega) hd h
        · have hd := hd.2 q
          have h := fun v S9 e => h v S9 (Eq.trans e (if_neg q).symm)
          refine xj_E.adv 6 (pc' := 91) (ls' := [(0, .ref 32), (1, .int u1), (2, .int u2), (3, .int u3), (4, .int u4)]) (st' := [.int u2, .ref 49, .int u2, .ref 49]) (w' := (SH, S, T)) rfl ?_
          refine xj_E.iald rfl rfl hd.1 ?_
          have hd := hd.2
          refine xj_E.adv 8 (pc' := 101) (ls' := [(0, .ref 32), (1, .int u1), (2, .int u2), (3, .int u3), (4, .int u4)]) (st' := [.int ((S 49 u2.toNatClampNeg) ||| (1 <<< (((2 * u3) + u4) &&& 31))), .int u2, .ref 49]) (w' := (SH, S, T)) rfl ?_
          refine xj_E.iast rfl rfl hd.1 ?_
          have hd := hd.2
          refine xj_E.adv 2 (pc' := 52) (ls' := [(4, .int (u4 + 1)), (0, .ref 32), (1, .int u1), (2, .int u2), (3, .int u3)]) (st' := []) (w' := (SH, (xj_set S 49 u2.toNatClampNeg ((S 49 u2.toNatClampNeg) ||| (1 <<< (((2 * u3) + u4) &&& 31)))), T)) rfl ?_
          refine xj_E.loc [0, 1, 2, 3, 4] xhth rfl (show xj_E (xX L xs) D 106 52 [(0, .ref 32), (1, .int u1), (2, .int u2), (3, .int u3), (4, .int (u4 + 1))] [] (SH, (xj_set S 49 u2.toNatClampNeg ((S 49 u2.toNatClampNeg) ||| (1 <<< (((2 * u3) + u4) &&& 31)))), T) P from ?_)
          exact (ih.2.2) _ _ _ _ _ _ _ (by omega) hd h
