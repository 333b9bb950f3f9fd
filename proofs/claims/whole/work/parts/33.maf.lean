/-! a method that stores: our machine does so -/
set_option maxHeartbeats 4000000 in
set_option maxRecDepth 100000 in
theorem okk_p_addSentry {L : Nat} {xs : Nat → Int32} {T : Nat → Nat → Int64} (n : Nat) : (∀ (u1 : Int32) (u3 : Int32) (u4 : Int32) S D (P : (Option Value ⊕ Nat) → xj_W → Nat → Nat → Prop), 1 ≤ D → dk_p_addSentry n u1 u3 u4 S → (∀ v S9, (v, S9) = fk_p_addSentry n u1 u3 u4 S → P (.inl (some (.int v))) (SH, S9, T) 0 0) → xj_E (xX L xs) D 18 29 [(0, .ref 1), (1, .int u1), (3, .int u3), (4, .int u4)] [] (SH, S, T) P) := by
  induction n with
  | zero => exact fun _ _ _ _ _ _ _ hd _ => hd.elim
  | succ n ih =>
    refine ?_
    · intro u1 u3 u4 S D P hD hd h
      have h : ∀ v S9, (v, S9) = ((if 2 ≤ u4 then ((u3, (xj_set S 1 5 ((S 1 5) + 1)))) else (fk_p_addSentry n u1 u3 (u4 + 1) (xj_set S 5 u1.toNatClampNeg ((S 5 u1.toNatClampNeg) ||| (r_p_partBit S u3 u4))))) : Int32 × (Nat → Nat → Int32)) → P (.inl (some (.int v))) (SH, S9, T) 0 0 := h
      obtain ⟨D1, rfl⟩ : ∃ D1, D = D1 + 1 := ⟨D - 1, by omega⟩
      refine xj_E.adv 3 (pc' := (if xj_cmp .ge u4 2 = true then 56 else 35)) (ls' := [(0, .ref 1), (1, .int u1), (3, .int u3), (4, .int u4)]) (st' := []) (w' := (SH, S, T)) rfl ?_
      refine xj_E.b_ge (fun q => ?_) (fun q => ?_)
      · have hd := hd.1 q
        have h := fun v S9 e => h v S9 (Eq.trans e (if_pos q).symm)
        refine xj_E.adv 7 (pc' := 67) (ls' := [(0, .ref 1), (1, .int u1), (3, .int u3), (4, .int u4)]) (st' := [.int u3]) (w' := (SH, (xj_set S 1 5 ((S 1 5) + 1)), T)) rfl ?_
        exact xj_E.ret rfl rfl rfl rfl (h _ _ rfl)
      · have hd := hd.2 q
        have h := fun v S9 e => h v S9 (Eq.trans e (if_neg q).symm)
        refine xj_E.adv 4 (pc' := 41) (ls' := [(0, .ref 1), (1, .int u1), (3, .int u3), (4, .int u4)]) (st' := [.int u1, .ref 5, .int u1, .ref 5]) (w' := (SH, S, T)) rfl ?_
        refine xj_E.iald rfl rfl hd.1 ?_
        have hd := hd.2
        refine xj_E.adv 2 (pc' := 45) (ls' := [(0, .ref 1), (1, .int u1), (3, .int u3), (4, .int u4)]) (st' := [.int u4, .int u3, .int (S 5 u1.toNatClampNeg), .int u1, .ref 5]) (w' := (SH, S, T)) rfl ?_
        refine xj_E.calli (d := D1) (S := SH) rfl rfl rfl rfl rfl (xj_E.deep (ok_p_partBit (d := 0) hd.1 ?_) (by omega))
        intro w1 f1
        refine ⟨_, _, _, rfl, rfl, rfl, rfl, ?_⟩
        have hd := hd.2
        rw [← f1] at hd
        have h : ∀ v S9, (v, S9) = ((fk_p_addSentry n u1 u3 (u4 + 1) (xj_set S 5 u1.toNatClampNeg ((S 5 u1.toNatClampNeg) ||| (r_p_partBit S u3 u4)))) : Int32 × (Nat → Nat → Int32)) → P (.inl (some (.int v))) (SH, S9, T) 0 0 := h
        rw [← f1] at h
        refine xj_E.adv 1 (pc' := 49) (ls' := [(0, .ref 1), (1, .int u1), (3, .int u3), (4, .int u4)]) (st' := [.int ((S 5 u1.toNatClampNeg) ||| w1), .int u1, .ref 5]) (w' := (SH, S, T)) rfl ?_
        refine xj_E.iast rfl rfl hd.1 ?_
        have hd := hd.2
        refine xj_E.adv 2 (pc' := 29) (ls' := [(4, .int (u4 + 1)), (0, .ref 1), (1, .int u1), (3, .int u3)]) (st' := []) (w' := (SH, (xj_set S 5 u1.toNatClampNeg ((S 5 u1.toNatClampNeg) ||| w1)), T)) rfl ?_
        refine xj_E.loc [0, 1, 3, 4] xhth rfl (show xj_E (xX L xs) (D1 + 1) 18 29 [(0, .ref 1), (1, .int u1), (3, .int u3), (4, .int (u4 + 1))] [] (SH, (xj_set S 5 u1.toNatClampNeg ((S 5 u1.toNatClampNeg) ||| w1)), T) P from ?_)
        exact (ih) _ _ _ _ _ _ (by omega) hd h
