/-! a method that stores: our machine does so -/
set_option maxHeartbeats 4000000 in
set_option maxRecDepth 100000 in
theorem okk_m_mark {L : Nat} {xs : Nat → Int32} {T : Nat → Nat → Int64} (n : Nat) : (∀ (u1 : Int32) (u2 : Int32) (u3 : Int32) S D (P : (Option Value ⊕ Nat) → xj_W → Nat → Nat → Prop), 1 ≤ D → (dk_m_mark n).1 u1 u2 u3 S → (∀ v S9, (v, S9) = (fk_m_mark n).1 u1 u2 u3 S → P (.inl none) (SH, S9, T) 0 0) → xj_E (xX L xs) D 82 2 [(0, .ref 32), (1, .int u1), (2, .int u2), (3, .int u3)] [] (SH, S, T) P) ∧
    (∀ (u1 : Int32) (u2 : Int32) (u3 : Int32) (u4 : Int32) S D (P : (Option Value ⊕ Nat) → xj_W → Nat → Nat → Prop), 1 ≤ D → (dk_m_mark n).2.1 u1 u2 u3 u4 S → (∀ v S9, (v, S9) = (fk_m_mark n).2.1 u1 u2 u3 u4 S → P (.inl none) (SH, S9, T) 0 0) → xj_E (xX L xs) D 82 44 [(0, .ref 32), (1, .int u1), (2, .int u2), (3, .int u3), (4, .int u4)] [] (SH, S, T) P) ∧
    (∀ (u1 : Int32) (u2 : Int32) (u3 : Int32) (u4 : Int32) (u5 : Int32) S D (P : (Option Value ⊕ Nat) → xj_W → Nat → Nat → Prop), 1 ≤ D → (dk_m_mark n).2.2 u1 u2 u3 u4 u5 S → (∀ v S9, (v, S9) = (fk_m_mark n).2.2 u1 u2 u3 u4 u5 S → P (.inl none) (SH, S9, T) 0 0) → xj_E (xX L xs) D 82 75 [(0, .ref 32), (1, .int u1), (2, .int u2), (3, .int u3), (4, .int u4), (5, .int u5)] [] (SH, S, T) P) := by
  induction n with
  | zero => exact ⟨fun _ _ _ _ _ _ _ hd _ => hd.elim, fun _ _ _ _ _ _ _ _ hd _ => hd.elim, fun _ _ _ _ _ _ _ _ _ hd _ => hd.elim⟩
  | succ n ih =>
    refine ⟨?_, ?_, ?_⟩
    · intro u1 u2 u3 S D P hD hd h
      have h : ∀ v S9, (v, S9) = ((if (S 32 17) ≤ u3 then ((0, S)) else (if u3 = u1 then ((fk_m_mark n).1 u1 u2 (u3 + 1) S) else (if (S 46 u3.toNatClampNeg) ≠ (S 46 u1.toNatClampNeg) then ((fk_m_mark n).1 u1 u2 (u3 + 1) S) else (if (r_m_isFinal S u3) = 0 then ((fk_m_mark n).2.1 u1 u2 u3 0 S) else ((fk_m_mark n).1 u1 u2 (u3 + 1) S))))) : Int32 × (Nat → Nat → Int32)) → P (.inl none) (SH, S9, T) 0 0 := h
      obtain ⟨D1, rfl⟩ : ∃ D1, D = D1 + 1 := ⟨D - 1, by omega⟩
      refine xj_E.adv 4 (pc' := (if xj_cmp .ge u3 (S 32 17) = true then 158 else 10)) (ls' := [(0, .ref 32), (1, .int u1), (2, .int u2), (3, .int u3)]) (st' := []) (w' := (SH, S, T)) rfl ?_
      refine xj_E.b_ge (fun q => ?_) (fun q => ?_)
      · have hd := hd.1 q
        have h := fun v S9 e => h v S9 (Eq.trans e (if_pos q).symm)
        exact xj_E.ret rfl rfl rfl rfl (h _ _ rfl)
      · have hd := hd.2 q
        have h := fun v S9 e => h v S9 (Eq.trans e (if_neg q).symm)
        refine xj_E.adv 3 (pc' := (if xj_cmp .eq u3 u1 = true then 152 else 15)) (ls' := [(0, .ref 32), (1, .int u1), (2, .int u2), (3, .int u3)]) (st' := []) (w' := (SH, S, T)) rfl ?_
        refine xj_E.b_eq (fun q => ?_) (fun q => ?_)
        · have hd := hd.1 q
          have h := fun v S9 e => h v S9 (Eq.trans e (if_pos q).symm)
          refine xj_E.adv 2 (pc' := 2) (ls' := [(3, .int (u3 + 1)), (0, .ref 32), (1, .int u1), (2, .int u2)]) (st' := []) (w' := (SH, S, T)) rfl ?_
          refine xj_E.loc [0, 1, 2, 3] xhth rfl (show xj_E (xX L xs) (D1 + 1) 82 2 [(0, .ref 32), (1, .int u1), (2, .int u2), (3, .int (u3 + 1))] [] (SH, S, T) P from ?_)
          exact (ih.1) _ _ _ _ _ _ (by omega) hd h
        · have hd := hd.2 q
          have h := fun v S9 e => h v S9 (Eq.trans e (if_neg q).symm)
          refine xj_E.adv 3 (pc' := 20) (ls' := [(0, .ref 32), (1, .int u1), (2, .int u2), (3, .int u3)]) (st' := [.int u3, .ref 46]) (w' := (SH, S, T)) rfl ?_
          refine xj_E.iald rfl rfl hd.1 ?_
          have hd := hd.2
          refine xj_E.adv 3 (pc' := 26) (ls' := [(0, .ref 32), (1, .int u1), (2, .int u2), (3, .int u3)]) (st' := [.int u1, .ref 46, .int (S 46 u3.toNatClampNeg)]) (w' := (SH, S, T)) rfl ?_
          refine xj_E.iald rfl rfl hd.1 ?_
          have hd := hd.2
          refine xj_E.adv 1 (pc' := (if xj_cmp .ne (S 46 u3.toNatClampNeg) (S 46 u1.toNatClampNeg) = true then 152 else 30)) (ls' := [(0, .ref 32), (1, .int u1), (2, .int u2), (3, .int u3)]) (st' := []) (w' := (SH, S, T)) rfl ?_
          refine xj_E.b_ne (fun q => ?_) (fun q => ?_)
          · have hd := hd.1 q
            have h := fun v S9 e => h v S9 (Eq.trans e (if_pos q).symm)
            refine xj_E.adv 2 (pc' := 2) (ls' := [(3, .int (u3 + 1)), (0, .ref 32), (1, .int u1), (2, .int u2)]) (st' := []) (w' := (SH, S, T)) rfl ?_
            refine xj_E.loc [0, 1, 2, 3] xhth rfl (show xj_E (xX L xs) (D1 + 1) 82 2 [(0, .ref 32), (1, .int u1), (2, .int u2), (3, .int (u3 + 1))] [] (SH, S, T) P from ?_)
            exact (ih.1) _ _ _ _ _ _ (by omega) hd h
          · have hd := hd.2 q
            have h := fun v S9 e => h v S9 (Eq.trans e (if_neg q).symm)
            refine xj_E.adv 2 (pc' := 32) (ls' := [(0, .ref 32), (1, .int u1), (2, .int u2), (3, .int u3)]) (st' := [.int u3, .ref 32]) (w' := (SH, S, T)) rfl ?_
            refine xj_E.calli (d := D1) (S := SH) rfl rfl rfl rfl rfl (xj_E.deep (ok_m_isFinal (d := 0) hd.1 ?_) (by omega))
            intro w1 f1
            refine ⟨_, _, _, rfl, rfl, rfl, rfl, ?_⟩
            have hd := hd.2
            rw [← f1] at hd
            have h : ∀ v S9, (v, S9) = ((if (r_m_isFinal S u3) = 0 then ((fk_m_mark n).2.1 u1 u2 u3 0 S) else ((fk_m_mark n).1 u1 u2 (u3 + 1) S)) : Int32 × (Nat → Nat → Int32)) → P (.inl none) (SH, S9, T) 0 0 := h
            rw [← f1] at h
            refine xj_E.adv 1 (pc' := (if xj_cmp .eq w1 0 = true then 41 else 38)) (ls' := [(0, .ref 32), (1, .int u1), (2, .int u2), (3, .int u3)]) (st' := []) (w' := (SH, S, T)) rfl ?_
            refine xj_E.b_eq (fun q => ?_) (fun q => ?_)
            · have hd := hd.1 q
              have h := fun v S9 e => h v S9 (Eq.trans e (if_pos q).symm)
              refine xj_E.adv 2 (pc' := 44) (ls' := [(4, .int 0), (0, .ref 32), (1, .int u1), (2, .int u2), (3, .int u3)]) (st' := []) (w' := (SH, S, T)) rfl ?_
              refine xj_E.loc [0, 1, 2, 3, 4] xhth rfl (show xj_E (xX L xs) (D1 + 1) 82 44 [(0, .ref 32), (1, .int u1), (2, .int u2), (3, .int u3), (4, .int 0)] [] (SH, S, T) P from ?_)
              exact (ih.2.1) _ _ _ _ _ _ _ (by omega) hd h
            · have hd := hd.2 q
              have h := fun v S9 e => h v S9 (Eq.trans e (if_neg q).symm)
              refine xj_E.adv 3 (pc' := 2) (ls' := [(3, .int (u3 + 1)), (0, .ref 32), (1, .int u1), (2, .int u2)]) (st' := []) (w' := (SH, S, T)) rfl ?_
              refine xj_E.loc [0, 1, 2, 3] xhth rfl (show xj_E (xX L xs) (D1 + 1) 82 2 [(0, .ref 32), (1, .int u1), (2, .int u2), (3, .int (u3 + 1))] [] (SH, S, T) P from ?_)
              exact (ih.1) _ _ _ _ _ _ (by omega) hd h
    · intro u1 u2 u3 u4 S D P hD hd h
      have h : ∀ v S9, (v, S9) = ((if (S 32 5) ≤ u4 then ((fk_m_mark n).1 u1 u2 (u3 + 1) S) else (if (S 36 u4.toNatClampNeg) = (S 45 u3.toNatClampNeg) then ((fk_m_mark n).2.2 u1 u2 u3 u4 0 S) else ((fk_m_mark n).2.1 u1 u2 u3 (u4 + 1) S))) : Int32 × (Nat → Nat → Int32)) → P (.inl none) (SH, S9, T) 0 0 := h
      refine xj_E.adv 4 (pc' := (if xj_cmp .ge u4 (S 32 5) = true then 152 else 53)) (ls' := [(0, .ref 32), (1, .int u1), (2, .int u2), (3, .int u3), (4, .int u4)]) (st' := []) (w' := (SH, S, T)) rfl ?_
      refine xj_E.b_ge (fun q => ?_) (fun q => ?_)
      · have hd := hd.1 q
        have h := fun v S9 e => h v S9 (Eq.trans e (if_pos q).symm)
        refine xj_E.adv 2 (pc' := 2) (ls' := [(3, .int (u3 + 1)), (0, .ref 32), (1, .int u1), (2, .int u2), (4, .int u4)]) (st' := []) (w' := (SH, S, T)) rfl ?_
        refine xj_E.loc [0, 1, 2, 3] xhth rfl (show xj_E (xX L xs) D 82 2 [(0, .ref 32), (1, .int u1), (2, .int u2), (3, .int (u3 + 1))] [] (SH, S, T) P from ?_)
        exact (ih.1) _ _ _ _ _ _ (by omega) hd h
      · have hd := hd.2 q
        have h := fun v S9 e => h v S9 (Eq.trans e (if_neg q).symm)
        refine xj_E.adv 3 (pc' := 59) (ls' := [(0, .ref 32), (1, .int u1), (2, .int u2), (3, .int u3), (4, .int u4)]) (st' := [.int u4, .ref 36]) (w' := (SH, S, T)) rfl ?_
        refine xj_E.iald rfl rfl hd.1 ?_
        have hd := hd.2
        refine xj_E.adv 3 (pc' := 65) (ls' := [(0, .ref 32), (1, .int u1), (2, .int u2), (3, .int u3), (4, .int u4)]) (st' := [.int u3, .ref 45, .int (S 36 u4.toNatClampNeg)]) (w' := (SH, S, T)) rfl ?_
        refine xj_E.iald rfl rfl hd.1 ?_
        have hd := hd.2
        refine xj_E.adv 1 (pc' := (if xj_cmp .eq (S 36 u4.toNatClampNeg) (S 45 u3.toNatClampNeg) = true then 72 else 69)) (ls' := [(0, .ref 32), (1, .int u1), (2, .int u2), (3, .int u3), (4, .int u4)]) (st' := []) (w' := (SH, S, T)) rfl ?_
        refine xj_E.b_eq (fun q => ?_) (fun q => ?_)
        · have hd := hd.1 q
          have h := fun v S9 e => h v S9 (Eq.trans e (if_pos q).symm)
          refine xj_E.adv 2 (pc' := 75) (ls' := [(5, .int 0), (0, .ref 32), (1, .int u1), (2, .int u2), (3, .int u3), (4, .int u4)]) (st' := []) (w' := (SH, S, T)) rfl ?_
          refine xj_E.loc [0, 1, 2, 3, 4, 5] xhth rfl (show xj_E (xX L xs) D 82 75 [(0, .ref 32), (1, .int u1), (2, .int u2), (3, .int u3), (4, .int u4), (5, .int 0)] [] (SH, S, T) P from ?_)
          exact (ih.2.2) _ _ _ _ _ _ _ _ (by omega) hd h
        · have hd := hd.2 q
          have h := fun v S9 e => h v S9 (Eq.trans e (if_neg q).symm)
          refine xj_E.adv 3 (pc' := 44) (ls' := [(4, .int (u4 + 1)), (0, .ref 32), (1, .int u1), (2, .int u2), (3, .int u3)]) (st' := []) (w' := (SH, S, T)) rfl ?_
          refine xj_E.loc [0, 1, 2, 3, 4] xhth rfl (show xj_E (xX L xs) D 82 44 [(0, .ref 32), (1, .int u1), (2, .int u2), (3, .int u3), (4, .int (u4 + 1))] [] (SH, S, T) P from ?_)
          exact (ih.2.1) _ _ _ _ _ _ _ (by omega) hd h
    · intro u1 u2 u3 u4 u5 S D P hD hd h
      have h : ∀ v S9, (v, S9) = ((if (S 38 u4.toNatClampNeg) ≤ u5 then ((fk_m_mark n).2.1 u1 u2 u3 (u4 + 1) S) else (if (S 39 ((2 * u4) + u5).toNatClampNeg) ≠ (S 45 u1.toNatClampNeg) then ((fk_m_mark n).2.2 u1 u2 u3 u4 (u5 + 1) S) else (if (S 40 ((2 * u4) + u5).toNatClampNeg) ≠ u2 then ((fk_m_mark n).2.2 u1 u2 u3 u4 (u5 + 1) S) else ((fk_m_mark n).2.2 u1 u2 u3 u4 (u5 + 1) (xj_set S 49 u3.toNatClampNeg ((S 49 u3.toNatClampNeg) ||| (1 <<< (((2 * u4) + u5) &&& 31)))))))) : Int32 × (Nat → Nat → Int32)) → P (.inl none) (SH, S9, T) 0 0 := h
      refine xj_E.adv 4 (pc' := 83) (ls' := [(0, .ref 32), (1, .int u1), (2, .int u2), (3, .int u3), (4, .int u4), (5, .int u5)]) (st' := [.int u4, .ref 38, .int u5]) (w' := (SH, S, T)) rfl ?_
      refine xj_E.iald rfl rfl hd.1 ?_
      have hd := hd.2
      refine xj_E.adv 1 (pc' := (if xj_cmp .ge u5 (S 38 u4.toNatClampNeg) = true then 146 else 87)) (ls' := [(0, .ref 32), (1, .int u1), (2, .int u2), (3, .int u3), (4, .int u4), (5, .int u5)]) (st' := []) (w' := (SH, S, T)) rfl ?_
      refine xj_E.b_ge (fun q => ?_) (fun q => ?_)
      · have hd := hd.1 q
        have h := fun v S9 e => h v S9 (Eq.trans e (if_pos q).symm)
        refine xj_E.adv 2 (pc' := 44) (ls' := [(4, .int (u4 + 1)), (0, .ref 32), (1, .int u1), (2, .int u2), (3, .int u3), (5, .int u5)]) (st' := []) (w' := (SH, S, T)) rfl ?_
        refine xj_E.loc [0, 1, 2, 3, 4] xhth rfl (show xj_E (xX L xs) D 82 44 [(0, .ref 32), (1, .int u1), (2, .int u2), (3, .int u3), (4, .int (u4 + 1))] [] (SH, S, T) P from ?_)
        exact (ih.2.1) _ _ _ _ _ _ _ (by omega) hd h
      · have hd := hd.2 q
        have h := fun v S9 e => h v S9 (Eq.trans e (if_neg q).symm)
        refine xj_E.adv 9 (pc' := 102) (ls' := [(6, .int ((2 * u4) + u5)), (0, .ref 32), (1, .int u1), (2, .int u2), (3, .int u3), (4, .int u4), (5, .int u5)]) (st' := [.int ((2 * u4) + u5), .ref 39]) (w' := (SH, S, T)) rfl ?_
        refine xj_E.iald rfl rfl hd.1 ?_
        have hd := hd.2
        refine xj_E.adv 3 (pc' := 108) (ls' := [(6, .int ((2 * u4) + u5)), (0, .ref 32), (1, .int u1), (2, .int u2), (3, .int u3), (4, .int u4), (5, .int u5)]) (st' := [.int u1, .ref 45, .int (S 39 ((2 * u4) + u5).toNatClampNeg)]) (w' := (SH, S, T)) rfl ?_
        refine xj_E.iald rfl rfl hd.1 ?_
        have hd := hd.2
        refine xj_E.adv 1 (pc' := (if xj_cmp .ne (S 39 ((2 * u4) + u5).toNatClampNeg) (S 45 u1.toNatClampNeg) = true then 140 else 112)) (ls' := [(6, .int ((2 * u4) + u5)), (0, .ref 32), (1, .int u1), (2, .int u2), (3, .int u3), (4, .int u4), (5, .int u5)]) (st' := []) (w' := (SH, S, T)) rfl ?_
        refine xj_E.b_ne (fun q => ?_) (fun q => ?_)
        · have hd := hd.1 q
          have h := fun v S9 e => h v S9 (Eq.trans e (if_pos q).symm)
          refine xj_E.adv 2 (pc' := 75) (ls' := [(5, .int (u5 + 1)), (6, .int ((2 * u4) + u5)), (0, .ref 32), (1, .int u1), (2, .int u2), (3, .int u3), (4, .int u4)]) (st' := []) (w' := (SH, S, T)) rfl ?_
          refine xj_E.loc [0, 1, 2, 3, 4, 5] xhth rfl (show xj_E (xX L xs) D 82 75 [(0, .ref 32), (1, .int u1), (2, .int u2), (3, .int u3), (4, .int u4), (5, .int (u5 + 1))] [] (SH, S, T) P from ?_)
          exact (ih.2.2) _ _ _ _ _ _ _ _ (by omega) hd h
        · have hd := hd.2 q
          have h := fun v S9 e => h v S9 (Eq.trans e (if_neg q).symm)
          refine xj_E.adv 3 (pc' := 118) (ls' := [(6, .int ((2 * u4) + u5)), (0, .ref 32), (1, .int u1), (2, .int u2), (3, .int u3), (4, .int u4), (5, .int u5)]) (st' := [.int ((2 * u4) + u5), .ref 40]) (w' := (SH, S, T)) rfl ?_
          refine xj_E.iald rfl rfl hd.1 ?_
          have hd := hd.2
          refine xj_E.adv 2 (pc' := (if xj_cmp .ne (S 40 ((2 * u4) + u5).toNatClampNeg) u2 = true then 140 else 123)) (ls' := [(6, .int ((2 * u4) + u5)), (0, .ref 32), (1, .int u1), (2, .int u2), (3, .int u3), (4, .int u4), (5, .int u5)]) (st' := []) (w' := (SH, S, T)) rfl ?_
          refine xj_E.b_ne (fun q => ?_) (fun q => ?_)
          · have hd := hd.1 q
            have h := fun v S9 e => h v S9 (Eq.trans e (if_pos q).symm)
            refine xj_E.adv 2 (pc' := 75) (ls' := [(5, .int (u5 + 1)), (6, .int ((2 * u4) + u5)), (0, .ref 32), (1, .int u1), (2, .int u2), (3, .int u3), (4, .int u4)]) (st' := []) (w' := (SH, S, T)) rfl ?_
            refine xj_E.loc [0, 1, 2, 3, 4, 5] xhth rfl (show xj_E (xX L xs) D 82 75 [(0, .ref 32), (1, .int u1), (2, .int u2), (3, .int u3), (4, .int u4), (5, .int (u5 + 1))] [] (SH, S, T) P from ?_)
            exact (ih.2.2) _ _ _ _ _ _ _ _ (by omega) hd h
          · have hd := hd.2 q
            have h := fun v S9 e => h v S9 (Eq.trans e (if_neg q).symm)
            refine xj_E.adv 6 (pc' := 133) (ls' := [(6, .int ((2 * u4) + u5)), (0, .ref 32), (1, .int u1), (2, .int u2), (3, .int u3), (4, .int u4), (5, .int u5)]) (st' := [.int u3, .ref 49, .int u3, .ref 49]) (w' := (SH, S, T)) rfl ?_
            refine xj_E.iald rfl rfl hd.1 ?_
            have hd := hd.2
            refine xj_E.adv 4 (pc' := 139) (ls' := [(6, .int ((2 * u4) + u5)), (0, .ref 32), (1, .int u1), (2, .int u2), (3, .int u3), (4, .int u4), (5, .int u5)]) (st' := [.int ((S 49 u3.toNatClampNeg) ||| (1 <<< (((2 * u4) + u5) &&& 31))), .int u3, .ref 49]) (w' := (SH, S, T)) rfl ?_
            refine xj_E.iast rfl rfl hd.1 ?_
            have hd := hd.2
            refine xj_E.adv 2 (pc' := 75) (ls' := [(5, .int (u5 + 1)), (6, .int ((2 * u4) + u5)), (0, .ref 32), (1, .int u1), (2, .int u2), (3, .int u3), (4, .int u4)]) (st' := []) (w' := (SH, (xj_set S 49 u3.toNatClampNeg ((S 49 u3.toNatClampNeg) ||| (1 <<< (((2 * u4) + u5) &&& 31)))), T)) rfl ?_
            refine xj_E.loc [0, 1, 2, 3, 4, 5] xhth rfl (show xj_E (xX L xs) D 82 75 [(0, .ref 32), (1, .int u1), (2, .int u2), (3, .int u3), (4, .int u4), (5, .int (u5 + 1))] [] (SH, (xj_set S 49 u3.toNatClampNeg ((S 49 u3.toNatClampNeg) ||| (1 <<< (((2 * u4) + u5) &&& 31)))), T) P from ?_)
            exact (ih.2.2) _ _ _ _ _ _ _ _ (by omega) hd h
