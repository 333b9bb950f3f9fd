/-! a method that stores: our machine does so -/
set_option maxHeartbeats 4000000 in
set_option maxRecDepth 100000 in
theorem okk_c_markSiblings {L : Nat} {xs : Nat → Int32} {T : Nat → Nat → Int64} (n : Nat) : (∀ (u1 : Int32) (u2 : Int32) (u3 : Int32) S D (P : (Option Value ⊕ Nat) → xj_W → Nat → Nat → Prop), 2 ≤ D → dk_c_markSiblings n u1 u2 u3 S → (∀ v S9, (v, S9) = fk_c_markSiblings n u1 u2 u3 S → P (.inl none) (SH, S9, T) 0 0) → xj_E (xX L xs) D 59 2 [(0, .ref 0), (1, .int u1), (2, .int u2), (3, .int u3)] [] (SH, S, T) P) := by
  induction n with
  | zero => exact fun _ _ _ _ _ _ _ hd _ => hd.elim
  | succ n ih =>
    refine ?_
    · intro u1 u2 u3 S D P hD hd h
      have h : ∀ v S9, (v, S9) = ((if (S 14 1) ≤ u3 then ((0, S)) else (if u3 = u1 then (fk_c_markSiblings n u1 u2 (u3 + 1) S) else (if (S 16 u3.toNatClampNeg) ≠ (S 16 u1.toNatClampNeg) then (fk_c_markSiblings n u1 u2 (u3 + 1) S) else (match f_c_mark u3 u2 S with | (_, S1) => fk_c_markSiblings n u1 u2 (u3 + 1) S1)))) : Int32 × (Nat → Nat → Int32)) → P (.inl none) (SH, S9, T) 0 0 := h
      obtain ⟨D1, rfl⟩ : ∃ D1, D = D1 + 1 := ⟨D - 1, by omega⟩
      refine xj_E.adv 5 (pc' := (if xj_cmp .ge u3 (S 14 1) = true then 51 else 13)) (ls' := [(0, .ref 0), (1, .int u1), (2, .int u2), (3, .int u3)]) (st' := []) (w' := (SH, S, T)) rfl ?_
      refine xj_E.b_ge (fun q => ?_) (fun q => ?_)
      · have hd := hd.1 q
        have h := fun v S9 e => h v S9 (Eq.trans e (if_pos q).symm)
        exact xj_E.ret rfl rfl rfl rfl (h _ _ rfl)
      · have hd := hd.2 q
        have h := fun v S9 e => h v S9 (Eq.trans e (if_neg q).symm)
        refine xj_E.adv 3 (pc' := (if xj_cmp .eq u3 u1 = true then 45 else 18)) (ls' := [(0, .ref 0), (1, .int u1), (2, .int u2), (3, .int u3)]) (st' := []) (w' := (SH, S, T)) rfl ?_
        refine xj_E.b_eq (fun q => ?_) (fun q => ?_)
        · have hd := hd.1 q
          have h := fun v S9 e => h v S9 (Eq.trans e (if_pos q).symm)
          refine xj_E.adv 2 (pc' := 2) (ls' := [(3, .int (u3 + 1)), (0, .ref 0), (1, .int u1), (2, .int u2)]) (st' := []) (w' := (SH, S, T)) rfl ?_
          refine xj_E.loc [0, 1, 2, 3] xhth rfl (show xj_E (xX L xs) (D1 + 1) 59 2 [(0, .ref 0), (1, .int u1), (2, .int u2), (3, .int (u3 + 1))] [] (SH, S, T) P from ?_)
          exact (ih) _ _ _ _ _ _ (by omega) hd h
        · have hd := hd.2 q
          have h := fun v S9 e => h v S9 (Eq.trans e (if_neg q).symm)
          refine xj_E.adv 4 (pc' := 26) (ls' := [(0, .ref 0), (1, .int u1), (2, .int u2), (3, .int u3)]) (st' := [.int u3, .ref 16]) (w' := (SH, S, T)) rfl ?_
          refine xj_E.iald rfl rfl hd.1 ?_
          have hd := hd.2
          refine xj_E.adv 4 (pc' := 35) (ls' := [(0, .ref 0), (1, .int u1), (2, .int u2), (3, .int u3)]) (st' := [.int u1, .ref 16, .int (S 16 u3.toNatClampNeg)]) (w' := (SH, S, T)) rfl ?_
          refine xj_E.iald rfl rfl hd.1 ?_
          have hd := hd.2
          refine xj_E.adv 1 (pc' := (if xj_cmp .ne (S 16 u3.toNatClampNeg) (S 16 u1.toNatClampNeg) = true then 45 else 39)) (ls' := [(0, .ref 0), (1, .int u1), (2, .int u2), (3, .int u3)]) (st' := []) (w' := (SH, S, T)) rfl ?_
          refine xj_E.b_ne (fun q => ?_) (fun q => ?_)
          · have hd := hd.1 q
            have h := fun v S9 e => h v S9 (Eq.trans e (if_pos q).symm)
            refine xj_E.adv 2 (pc' := 2) (ls' := [(3, .int (u3 + 1)), (0, .ref 0), (1, .int u1), (2, .int u2)]) (st' := []) (w' := (SH, S, T)) rfl ?_
            refine xj_E.loc [0, 1, 2, 3] xhth rfl (show xj_E (xX L xs) (D1 + 1) 59 2 [(0, .ref 0), (1, .int u1), (2, .int u2), (3, .int (u3 + 1))] [] (SH, S, T) P from ?_)
            exact (ih) _ _ _ _ _ _ (by omega) hd h
          · have hd := hd.2 q
            have h := fun v S9 e => h v S9 (Eq.trans e (if_neg q).symm)
            refine xj_E.adv 3 (pc' := 42) (ls' := [(0, .ref 0), (1, .int u1), (2, .int u2), (3, .int u3)]) (st' := [.int u2, .int u3, .ref 0]) (w' := (SH, S, T)) rfl ?_
            refine xj_E.callv (d := D1) (S := SH) rfl rfl rfl rfl rfl (ok_c_mark (by omega) hd.1 ?_)
            intro v1 S1 e1
            refine ⟨_, _, rfl, rfl, rfl, rfl, ?_⟩
            have hd := hd.2
            generalize f_c_mark u3 u2 S = Xe1 at e1 hd h
            subst e1
            refine xj_E.adv 2 (pc' := 2) (ls' := [(3, .int (u3 + 1)), (0, .ref 0), (1, .int u1), (2, .int u2)]) (st' := []) (w' := (SH, S1, T)) rfl ?_
            refine xj_E.loc [0, 1, 2, 3] xhth rfl (show xj_E (xX L xs) (D1 + 1) 59 2 [(0, .ref 0), (1, .int u1), (2, .int u2), (3, .int (u3 + 1))] [] (SH, S1, T) P from ?_)
            exact (ih) _ _ _ _ _ _ (by omega) hd h
