/-! a method that stores: our machine does so -/
set_option maxHeartbeats 4000000 in
set_option maxRecDepth 100000 in
theorem okk_c_markAll {L : Nat} {xs : Nat → Int32} {T : Nat → Nat → Int64} (n : Nat) : (∀ (u1 : Int32) (u2 : Int32) S D (P : (Option Value ⊕ Nat) → xj_W → Nat → Nat → Prop), 2 ≤ D → dk_c_markAll n u1 u2 S → (∀ v S9, (v, S9) = fk_c_markAll n u1 u2 S → P (.inl none) (SH, S9, T) 0 0) → xj_E (xX L xs) D 60 2 [(0, .ref 0), (1, .int u1), (2, .int u2)] [] (SH, S, T) P) := by
  induction n with
  | zero => exact fun _ _ _ _ _ _ hd _ => hd.elim
  | succ n ih =>
    refine ?_
    · intro u1 u2 S D P hD hd h
      have h : ∀ v S9, (v, S9) = ((if (S 14 1) ≤ u2 then ((0, S)) else (match f_c_mark u2 u1 S with | (_, S1) => fk_c_markAll n u1 (u2 + 1) S1)) : Int32 × (Nat → Nat → Int32)) → P (.inl none) (SH, S9, T) 0 0 := h
      obtain ⟨D1, rfl⟩ : ∃ D1, D = D1 + 1 := ⟨D - 1, by omega⟩
      refine xj_E.adv 5 (pc' := (if xj_cmp .ge u2 (S 14 1) = true then 25 else 13)) (ls' := [(0, .ref 0), (1, .int u1), (2, .int u2)]) (st' := []) (w' := (SH, S, T)) rfl ?_
      refine xj_E.b_ge (fun q => ?_) (fun q => ?_)
      · have hd := hd.1 q
        have h := fun v S9 e => h v S9 (Eq.trans e (if_pos q).symm)
        exact xj_E.ret rfl rfl rfl rfl (h _ _ rfl)
      · have hd := hd.2 q
        have h := fun v S9 e => h v S9 (Eq.trans e (if_neg q).symm)
        refine xj_E.adv 3 (pc' := 16) (ls' := [(0, .ref 0), (1, .int u1), (2, .int u2)]) (st' := [.int u1, .int u2, .ref 0]) (w' := (SH, S, T)) rfl ?_
        refine xj_E.callv (d := D1) (S := SH) rfl rfl rfl rfl rfl (ok_c_mark (by omega) hd.1 ?_)
        intro v1 S1 e1
        refine ⟨_, _, rfl, rfl, rfl, rfl, ?_⟩
        have hd := hd.2
        generalize f_c_mark u2 u1 S = Xe1 at e1 hd h
        subst e1
        refine xj_E.adv 2 (pc' := 2) (ls' := [(2, .int (u2 + 1)), (0, .ref 0), (1, .int u1)]) (st' := []) (w' := (SH, S1, T)) rfl ?_
        refine xj_E.loc [0, 1, 2] xhth rfl (show xj_E (xX L xs) (D1 + 1) 60 2 [(0, .ref 0), (1, .int u1), (2, .int (u2 + 1))] [] (SH, S1, T) P from ?_)
        exact (ih) _ _ _ _ _ (by omega) hd h
