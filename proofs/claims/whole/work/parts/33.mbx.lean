/-! a method that stores: our machine does so -/
set_option maxHeartbeats 4000000 in
set_option maxRecDepth 100000 in
theorem okk_c_all {L : Nat} {xs : Nat → Int32} {T : Nat → Nat → Int64} (n : Nat) : (∀ (u1 : Int32) (u2 : Int32) (u3 : Int32) S D (P : (Option Value ⊕ Nat) → xj_W → Nat → Nat → Prop), 3 + n ≤ D → (dk_c_all n).1 u1 u2 u3 S → (∀ v S9, (v, S9) = (fk_c_all n).1 u1 u2 u3 S → P (.inl none) (SH, S9, T) 0 0) → xj_E (xX L xs) D 57 0 [(0, .ref 0), (1, .int u1), (2, .int u2), (3, .int u3)] [] (SH, S, T) P) ∧
    (∀ (u1 : Int32) (u2 : Int32) (u3 : Int32) S D (P : (Option Value ⊕ Nat) → xj_W → Nat → Nat → Prop), 3 + n ≤ D → (dk_c_all n).2.1 u1 u2 u3 S → (∀ v S9, (v, S9) = (fk_c_all n).2.1 u1 u2 u3 S → P (.inl none) (SH, S9, T) 0 0) → xj_E (xX L xs) D 58 0 [(0, .ref 0), (1, .int u1), (2, .int u2), (3, .int u3)] [] (SH, S, T) P) ∧
    (∀ (u1 : Int32) (u2 : Int32) (u3 : Int32) S D (P : (Option Value ⊕ Nat) → xj_W → Nat → Nat → Prop), 3 + n ≤ D → (dk_c_all n).2.2.1 u1 u2 u3 S → (∀ v S9, (v, S9) = (fk_c_all n).2.2.1 u1 u2 u3 S → P (.inl none) (SH, S9, T) 0 0) → xj_E (xX L xs) D 62 0 [(0, .ref 0), (1, .int u1), (2, .int u2), (3, .int u3)] [] (SH, S, T) P) ∧
    (∀ (u1 : Int32) (u2 : Int32) S D (P : (Option Value ⊕ Nat) → xj_W → Nat → Nat → Prop), 3 + n ≤ D → (dk_c_all n).2.2.2.1 u1 u2 S → (∀ v S9, (v, S9) = (fk_c_all n).2.2.2.1 u1 u2 S → P (.inl none) (SH, S9, T) 0 0) → xj_E (xX L xs) D 63 0 [(0, .ref 0), (1, .int u1), (2, .int u2)] [] (SH, S, T) P) ∧
    (∀ (u1 : Int32) (u2 : Int32) S D (P : (Option Value ⊕ Nat) → xj_W → Nat → Nat → Prop), 3 + n ≤ D → (dk_c_all n).2.2.2.2.1 u1 u2 S → (∀ v S9, (v, S9) = (fk_c_all n).2.2.2.2.1 u1 u2 S → P (.inl none) (SH, S9, T) 0 0) → xj_E (xX L xs) D 64 0 [(0, .ref 0), (1, .int u1), (2, .int u2)] [] (SH, S, T) P) ∧
    (∀ (u1 : Int32) (u2 : Int32) (u3 : Int32) (u4 : Int32) S D (P : (Option Value ⊕ Nat) → xj_W → Nat → Nat → Prop), 3 + n ≤ D → (dk_c_all n).2.2.2.2.2.1 u1 u2 u3 u4 S → (∀ v S9, (v, S9) = (fk_c_all n).2.2.2.2.2.1 u1 u2 u3 u4 S → P (.inl none) (SH, S9, T) 0 0) → xj_E (xX L xs) D 65 0 [(0, .ref 0), (1, .int u1), (2, .int u2), (3, .int u3), (4, .int u4)] [] (SH, S, T) P) ∧
    (∀ (u1 : Int32) (u2 : Int32) S D (P : (Option Value ⊕ Nat) → xj_W → Nat → Nat → Prop), 3 + n ≤ D → (dk_c_all n).2.2.2.2.2.2.1 u1 u2 S → (∀ v S9, (v, S9) = (fk_c_all n).2.2.2.2.2.2.1 u1 u2 S → P (.inl none) (SH, S9, T) 0 0) → xj_E (xX L xs) D 66 0 [(0, .ref 0), (1, .int u1), (2, .int u2)] [] (SH, S, T) P) ∧
    (∀ (u1 : Int32) (u2 : Int32) (u3 : Int32) S D (P : (Option Value ⊕ Nat) → xj_W → Nat → Nat → Prop), 3 + n ≤ D → (dk_c_all n).2.2.2.2.2.2.2.1 u1 u2 u3 S → (∀ v S9, (v, S9) = (fk_c_all n).2.2.2.2.2.2.2.1 u1 u2 u3 S → P (.inl none) (SH, S9, T) 0 0) → xj_E (xX L xs) D 63 2 [(0, .ref 0), (1, .int u1), (2, .int u2), (3, .int u3)] [] (SH, S, T) P) ∧
    (∀ (u1 : Int32) (u2 : Int32) (u3 : Int32) (u4 : Int32) S D (P : (Option Value ⊕ Nat) → xj_W → Nat → Nat → Prop), 3 + n ≤ D → (dk_c_all n).2.2.2.2.2.2.2.2.1 u1 u2 u3 u4 S → (∀ v S9, (v, S9) = (fk_c_all n).2.2.2.2.2.2.2.2.1 u1 u2 u3 u4 S → P (.inl none) (SH, S9, T) 0 0) → xj_E (xX L xs) D 64 11 [(0, .ref 0), (1, .int u1), (2, .int u2), (3, .int u3), (4, .int u4)] [] (SH, S, T) P) ∧
    (∀ (u1 : Int32) (u2 : Int32) (u3 : Int32) (u4 : Int32) (u5 : Int32) (u6 : Int32) S D (P : (Option Value ⊕ Nat) → xj_W → Nat → Nat → Prop), 3 + n ≤ D → (dk_c_all n).2.2.2.2.2.2.2.2.2 u1 u2 u3 u4 u5 u6 S → (∀ v S9, (v, S9) = (fk_c_all n).2.2.2.2.2.2.2.2.2 u1 u2 u3 u4 u5 u6 S → P (.inl none) (SH, S9, T) 0 0) → xj_E (xX L xs) D 65 12 [(0, .ref 0), (1, .int u1), (2, .int u2), (3, .int u3), (4, .int u4), (5, .int u5), (6, .int u6)] [] (SH, S, T) P) := by
  induction n with
  | zero => exact ⟨fun _ _ _ _ _ _ _ hd _ => hd.elim, fun _ _ _ _ _ _ _ hd _ => hd.elim, fun _ _ _ _ _ _ _ hd _ => hd.elim, fun _ _ _ _ _ _ hd _ => hd.elim, fun _ _ _ _ _ _ hd _ => hd.elim, fun _ _ _ _ _ _ _ _ hd _ => hd.elim, fun _ _ _ _ _ _ hd _ => hd.elim, fun _ _ _ _ _ _ _ hd _ => hd.elim, fun _ _ _ _ _ _ _ _ hd _ => hd.elim, fun _ _ _ _ _ _ _ _ _ _ hd _ => hd.elim⟩
  | succ n ih =>
    refine ⟨?_, ?_, ?_, ?_, ?_, ?_, ?_, ?_, ?_, ?_⟩
    · intro u1 u2 u3 S D P hD hd h
      have h : ∀ v S9, (v, S9) = ((if (S 0 4) ≠ 0 then ((0, (xj_set S 0 4 1))) else (if (S 14 1) ≠ 40 then (match f_l_add u1 u2 S with | (v1, S1) => match (fk_c_all n).2.1 v1 0 u3 S1 with | (_, S2) => (0, S2)) else ((0, (xj_set S 0 4 1))))) : Int32 × (Nat → Nat → Int32)) → P (.inl none) (SH, S9, T) 0 0 := h
      obtain ⟨D1, rfl⟩ : ∃ D1, D = D1 + 1 := ⟨D - 1, by omega⟩
      refine xj_E.adv 3 (pc' := (if xj_cmp .ne (S 0 4) 0 = true then 19 else 7)) (ls' := [(0, .ref 0), (1, .int u1), (2, .int u2), (3, .int u3)]) (st' := []) (w' := (SH, S, T)) rfl ?_
      refine xj_E.b_ne (fun q => ?_) (fun q => ?_)
      · have hd := hd.1 q
        have h := fun v S9 e => h v S9 (Eq.trans e (if_pos q).symm)
        refine xj_E.adv 3 (pc' := 24) (ls' := [(0, .ref 0), (1, .int u1), (2, .int u2), (3, .int u3)]) (st' := []) (w' := (SH, (xj_set S 0 4 1), T)) rfl ?_
        exact xj_E.ret rfl rfl rfl rfl (h _ _ rfl)
      · have hd := hd.2 q
        have h := fun v S9 e => h v S9 (Eq.trans e (if_neg q).symm)
        refine xj_E.adv 5 (pc' := (if xj_cmp .ne (S 14 1) 40 = true then 25 else 19)) (ls' := [(0, .ref 0), (1, .int u1), (2, .int u2), (3, .int u3)]) (st' := []) (w' := (SH, S, T)) rfl ?_
        refine xj_E.b_ne (fun q => ?_) (fun q => ?_)
        · have hd := hd.1 q
          have h := fun v S9 e => h v S9 (Eq.trans e (if_pos q).symm)
          refine xj_E.adv 5 (pc' := 32) (ls' := [(0, .ref 0), (1, .int u1), (2, .int u2), (3, .int u3)]) (st' := [.int u2, .int u1, .ref 14, .ref 0]) (w' := (SH, S, T)) rfl ?_
          refine xj_E.calli (d := D1) (S := SH) rfl rfl rfl rfl rfl (ok_l_add (by omega) hd.1 ?_)
          intro v1 S1 e1
          refine ⟨_, _, _, rfl, rfl, rfl, rfl, ?_⟩
          have hd := hd.2
          generalize f_l_add u1 u2 S = Xe1 at e1 hd h
          subst e1
          have h : ∀ v S9, (v, S9) = ((match (fk_c_all n).2.1 v1 0 u3 S1 with | (_, S2) => (0, S2)) : Int32 × (Nat → Nat → Int32)) → P (.inl none) (SH, S9, T) 0 0 := h
          refine xj_E.adv 2 (pc' := 37) (ls' := [(0, .ref 0), (1, .int u1), (2, .int u2), (3, .int u3)]) (st' := [.int u3, .int 0, .int v1, .ref 0]) (w' := (SH, S1, T)) rfl ?_
          refine xj_E.callv (d := D1) (S := SH) rfl rfl rfl rfl rfl ((ih.2.1) _ _ _ _ _ _ (by omega) hd.1 ?_)
          intro v2 S2 e2
          refine ⟨_, _, rfl, rfl, rfl, rfl, ?_⟩
          have hd := hd.2
          generalize (fk_c_all n).2.1 v1 0 u3 S1 = Xe2 at e2 hd h
          subst e2
          exact xj_E.ret rfl rfl rfl rfl (h _ _ rfl)
        · have hd := hd.2 q
          have h := fun v S9 e => h v S9 (Eq.trans e (if_neg q).symm)
          refine xj_E.adv 3 (pc' := 24) (ls' := [(0, .ref 0), (1, .int u1), (2, .int u2), (3, .int u3)]) (st' := []) (w' := (SH, (xj_set S 0 4 1), T)) rfl ?_
          exact xj_E.ret rfl rfl rfl rfl (h _ _ rfl)
    · intro u1 u2 u3 S D P hD hd h
      have h : ∀ v S9, (v, S9) = ((if (S 0 4) ≠ 0 then ((0, (xj_set S 0 4 1))) else (if (S 0 3) = (S 14 0) then ((0, (xj_set S 0 4 1))) else (if u3 ≤ 12 then (match f_l_note u1 u2 (xj_set S 0 3 ((S 0 3) + 1)) with | (_, S1) => match f_c_markSiblings u1 (r_p_partsHearing S1 (S1 15 u1.toNatClampNeg) u2) S1 with | (_, S2) => if (S2 2 (S2 15 u1.toNatClampNeg).toNatClampNeg) ≠ 0 then (if u2 = 4 then (match (fk_c_all n).2.2.2.2.2.2.1 u1 (u3 + 1) S2 with | (_, S3) => (0, S3)) else (if u2 ≠ 3 then ((0, S2)) else (match (fk_c_all n).2.2.2.2.2.2.1 u1 (u3 + 1) S2 with | (_, S4) => (0, S4)))) else (match (fk_c_all n).2.2.1 u1 u2 (u3 + 1) S2 with | (_, S5) => if u2 = 4 then (match (fk_c_all n).2.2.2.2.2.2.1 u1 (u3 + 1) S5 with | (_, S6) => (0, S6)) else (if u2 ≠ 3 then ((0, S5)) else (match (fk_c_all n).2.2.2.2.2.2.1 u1 (u3 + 1) S5 with | (_, S7) => (0, S7))))) else ((0, (xj_set S 0 4 1)))))) : Int32 × (Nat → Nat → Int32)) → P (.inl none) (SH, S9, T) 0 0 := h
      obtain ⟨D1, rfl⟩ : ∃ D1, D = D1 + 1 := ⟨D - 1, by omega⟩
      refine xj_E.adv 3 (pc' := (if xj_cmp .ne (S 0 4) 0 = true then 27 else 7)) (ls' := [(0, .ref 0), (1, .int u1), (2, .int u2), (3, .int u3)]) (st' := []) (w' := (SH, S, T)) rfl ?_
      refine xj_E.b_ne (fun q => ?_) (fun q => ?_)
      · have hd := hd.1 q
        have h := fun v S9 e => h v S9 (Eq.trans e (if_pos q).symm)
        refine xj_E.adv 3 (pc' := 32) (ls' := [(0, .ref 0), (1, .int u1), (2, .int u2), (3, .int u3)]) (st' := []) (w' := (SH, (xj_set S 0 4 1), T)) rfl ?_
        exact xj_E.ret rfl rfl rfl rfl (h _ _ rfl)
      · have hd := hd.2 q
        have h := fun v S9 e => h v S9 (Eq.trans e (if_neg q).symm)
        refine xj_E.adv 6 (pc' := (if xj_cmp .eq (S 0 3) (S 14 0) = true then 27 else 21)) (ls' := [(0, .ref 0), (1, .int u1), (2, .int u2), (3, .int u3)]) (st' := []) (w' := (SH, S, T)) rfl ?_
        refine xj_E.b_eq (fun q => ?_) (fun q => ?_)
        · have hd := hd.1 q
          have h := fun v S9 e => h v S9 (Eq.trans e (if_pos q).symm)
          refine xj_E.adv 3 (pc' := 32) (ls' := [(0, .ref 0), (1, .int u1), (2, .int u2), (3, .int u3)]) (st' := []) (w' := (SH, (xj_set S 0 4 1), T)) rfl ?_
          exact xj_E.ret rfl rfl rfl rfl (h _ _ rfl)
        · have hd := hd.2 q
          have h := fun v S9 e => h v S9 (Eq.trans e (if_neg q).symm)
          refine xj_E.adv 3 (pc' := (if xj_cmp .le u3 12 = true then 33 else 27)) (ls' := [(0, .ref 0), (1, .int u1), (2, .int u2), (3, .int u3)]) (st' := []) (w' := (SH, S, T)) rfl ?_
          refine xj_E.b_le (fun q => ?_) (fun q => ?_)
          · have hd := hd.1 q
            have h := fun v S9 e => h v S9 (Eq.trans e (if_pos q).symm)
            refine xj_E.adv 10 (pc' := 49) (ls' := [(0, .ref 0), (1, .int u1), (2, .int u2), (3, .int u3)]) (st' := [.int u2, .int u1, .ref 14]) (w' := (SH, (xj_set S 0 3 ((S 0 3) + 1)), T)) rfl ?_
            refine xj_E.callv (d := D1) (S := SH) rfl rfl rfl rfl rfl (ok_l_note (by omega) hd.1 ?_)
            intro v1 S1 e1
            refine ⟨_, _, rfl, rfl, rfl, rfl, ?_⟩
            have hd := hd.2
            generalize f_l_note u1 u2 (xj_set S 0 3 ((S 0 3) + 1)) = Xe1 at e1 hd h
            subst e1
            have h : ∀ v S9, (v, S9) = ((match f_c_markSiblings u1 (r_p_partsHearing S1 (S1 15 u1.toNatClampNeg) u2) S1 with | (_, S2) => if (S2 2 (S2 15 u1.toNatClampNeg).toNatClampNeg) ≠ 0 then (if u2 = 4 then (match (fk_c_all n).2.2.2.2.2.2.1 u1 (u3 + 1) S2 with | (_, S3) => (0, S3)) else (if u2 ≠ 3 then ((0, S2)) else (match (fk_c_all n).2.2.2.2.2.2.1 u1 (u3 + 1) S2 with | (_, S4) => (0, S4)))) else (match (fk_c_all n).2.2.1 u1 u2 (u3 + 1) S2 with | (_, S5) => if u2 = 4 then (match (fk_c_all n).2.2.2.2.2.2.1 u1 (u3 + 1) S5 with | (_, S6) => (0, S6)) else (if u2 ≠ 3 then ((0, S5)) else (match (fk_c_all n).2.2.2.2.2.2.1 u1 (u3 + 1) S5 with | (_, S7) => (0, S7))))) : Int32 × (Nat → Nat → Int32)) → P (.inl none) (SH, S9, T) 0 0 := h
            refine xj_E.adv 8 (pc' := 66) (ls' := [(0, .ref 0), (1, .int u1), (2, .int u2), (3, .int u3)]) (st' := [.int u1, .ref 15, .ref 1, .int u1, .ref 0]) (w' := (SH, S1, T)) rfl ?_
            refine xj_E.iald rfl rfl hd.1 ?_
            have hd := hd.2
            refine xj_E.adv 1 (pc' := 68) (ls' := [(0, .ref 0), (1, .int u1), (2, .int u2), (3, .int u3)]) (st' := [.int u2, .int (S1 15 u1.toNatClampNeg), .ref 1, .int u1, .ref 0]) (w' := (SH, S1, T)) rfl ?_
            refine xj_E.calli (d := D1) (S := SH) rfl rfl rfl rfl rfl (xj_E.deep (ok_p_partsHearing (d := 0) hd.1 ?_) (by omega))
            intro w1 f1
            refine ⟨_, _, _, rfl, rfl, rfl, rfl, ?_⟩
            have hd := hd.2
            rw [← f1] at hd
            have h : ∀ v S9, (v, S9) = ((match f_c_markSiblings u1 (r_p_partsHearing S1 (S1 15 u1.toNatClampNeg) u2) S1 with | (_, S2) => if (S2 2 (S2 15 u1.toNatClampNeg).toNatClampNeg) ≠ 0 then (if u2 = 4 then (match (fk_c_all n).2.2.2.2.2.2.1 u1 (u3 + 1) S2 with | (_, S3) => (0, S3)) else (if u2 ≠ 3 then ((0, S2)) else (match (fk_c_all n).2.2.2.2.2.2.1 u1 (u3 + 1) S2 with | (_, S4) => (0, S4)))) else (match (fk_c_all n).2.2.1 u1 u2 (u3 + 1) S2 with | (_, S5) => if u2 = 4 then (match (fk_c_all n).2.2.2.2.2.2.1 u1 (u3 + 1) S5 with | (_, S6) => (0, S6)) else (if u2 ≠ 3 then ((0, S5)) else (match (fk_c_all n).2.2.2.2.2.2.1 u1 (u3 + 1) S5 with | (_, S7) => (0, S7))))) : Int32 × (Nat → Nat → Int32)) → P (.inl none) (SH, S9, T) 0 0 := h
            rw [← f1] at h
            refine xj_E.callv (d := D1) (S := SH) rfl rfl rfl rfl rfl (ok_c_markSiblings (by omega) hd.1 ?_)
            intro v2 S2 e2
            refine ⟨_, _, rfl, rfl, rfl, rfl, ?_⟩
            have hd := hd.2
            generalize f_c_markSiblings u1 w1 S1 = Xe2 at e2 hd h
            subst e2
            have h : ∀ v S9, (v, S9) = ((if (S2 2 (S2 15 u1.toNatClampNeg).toNatClampNeg) ≠ 0 then (if u2 = 4 then (match (fk_c_all n).2.2.2.2.2.2.1 u1 (u3 + 1) S2 with | (_, S3) => (0, S3)) else (if u2 ≠ 3 then ((0, S2)) else (match (fk_c_all n).2.2.2.2.2.2.1 u1 (u3 + 1) S2 with | (_, S4) => (0, S4)))) else (match (fk_c_all n).2.2.1 u1 u2 (u3 + 1) S2 with | (_, S5) => if u2 = 4 then (match (fk_c_all n).2.2.2.2.2.2.1 u1 (u3 + 1) S5 with | (_, S6) => (0, S6)) else (if u2 ≠ 3 then ((0, S5)) else (match (fk_c_all n).2.2.2.2.2.2.1 u1 (u3 + 1) S5 with | (_, S7) => (0, S7))))) : Int32 × (Nat → Nat → Int32)) → P (.inl none) (SH, S9, T) 0 0 := h
            refine xj_E.adv 7 (pc' := 89) (ls' := [(0, .ref 0), (1, .int u1), (2, .int u2), (3, .int u3)]) (st' := [.int u1, .ref 15, .ref 2]) (w' := (SH, S2, T)) rfl ?_
            refine xj_E.iald rfl rfl hd.1 ?_
            have hd := hd.2
            refine xj_E.iald rfl rfl hd.1 ?_
            have hd := hd.2
            refine xj_E.adv 1 (pc' := (if xj_cmp .ne (S2 2 (S2 15 u1.toNatClampNeg).toNatClampNeg) 0 = true then 103 else 94)) (ls' := [(0, .ref 0), (1, .int u1), (2, .int u2), (3, .int u3)]) (st' := []) (w' := (SH, S2, T)) rfl ?_
            refine xj_E.b_ne (fun q => ?_) (fun q => ?_)
            · have hd := hd.1 q
              have h := fun v S9 e => h v S9 (Eq.trans e (if_pos q).symm)
              refine xj_E.adv 3 (pc' := (if xj_cmp .eq u2 4 = true then 113 else 108)) (ls' := [(0, .ref 0), (1, .int u1), (2, .int u2), (3, .int u3)]) (st' := []) (w' := (SH, S2, T)) rfl ?_
              refine xj_E.b_eq (fun q => ?_) (fun q => ?_)
              · have hd := hd.1 q
                have h := fun v S9 e => h v S9 (Eq.trans e (if_pos q).symm)
                refine xj_E.adv 5 (pc' := 118) (ls' := [(0, .ref 0), (1, .int u1), (2, .int u2), (3, .int u3)]) (st' := [.int (u3 + 1), .int u1, .ref 0]) (w' := (SH, S2, T)) rfl ?_
                refine xj_E.callv (d := D1) (S := SH) rfl rfl rfl rfl rfl ((ih.2.2.2.2.2.2.1) _ _ _ _ _ (by omega) hd.1 ?_)
                intro v3 S3 e3
                refine ⟨_, _, rfl, rfl, rfl, rfl, ?_⟩
                have hd := hd.2
                generalize (fk_c_all n).2.2.2.2.2.2.1 u1 (u3 + 1) S2 = Xe3 at e3 hd h
                subst e3
                exact xj_E.ret rfl rfl rfl rfl (h _ _ rfl)
              · have hd := hd.2 q
                have h := fun v S9 e => h v S9 (Eq.trans e (if_neg q).symm)
                refine xj_E.adv 3 (pc' := (if xj_cmp .ne u2 3 = true then 121 else 113)) (ls' := [(0, .ref 0), (1, .int u1), (2, .int u2), (3, .int u3)]) (st' := []) (w' := (SH, S2, T)) rfl ?_
                refine xj_E.b_ne (fun q => ?_) (fun q => ?_)
                · have hd := hd.1 q
                  have h := fun v S9 e => h v S9 (Eq.trans e (if_pos q).symm)
                  exact xj_E.ret rfl rfl rfl rfl (h _ _ rfl)
                · have hd := hd.2 q
                  have h := fun v S9 e => h v S9 (Eq.trans e (if_neg q).symm)
                  refine xj_E.adv 5 (pc' := 118) (ls' := [(0, .ref 0), (1, .int u1), (2, .int u2), (3, .int u3)]) (st' := [.int (u3 + 1), .int u1, .ref 0]) (w' := (SH, S2, T)) rfl ?_
                  refine xj_E.callv (d := D1) (S := SH) rfl rfl rfl rfl rfl ((ih.2.2.2.2.2.2.1) _ _ _ _ _ (by omega) hd.1 ?_)
                  intro v4 S4 e4
                  refine ⟨_, _, rfl, rfl, rfl, rfl, ?_⟩
                  have hd := hd.2
                  generalize (fk_c_all n).2.2.2.2.2.2.1 u1 (u3 + 1) S2 = Xe4 at e4 hd h
                  subst e4
                  exact xj_E.ret rfl rfl rfl rfl (h _ _ rfl)
            · have hd := hd.2 q
              have h := fun v S9 e => h v S9 (Eq.trans e (if_neg q).symm)
              refine xj_E.adv 6 (pc' := 100) (ls' := [(0, .ref 0), (1, .int u1), (2, .int u2), (3, .int u3)]) (st' := [.int (u3 + 1), .int u2, .int u1, .ref 0]) (w' := (SH, S2, T)) rfl ?_
              refine xj_E.callv (d := D1) (S := SH) rfl rfl rfl rfl rfl ((ih.2.2.1) _ _ _ _ _ _ (by omega) hd.1 ?_)
              intro v5 S5 e5
              refine ⟨_, _, rfl, rfl, rfl, rfl, ?_⟩
              have hd := hd.2
              generalize (fk_c_all n).2.2.1 u1 u2 (u3 + 1) S2 = Xe5 at e5 hd h
              subst e5
              have h : ∀ v S9, (v, S9) = ((if u2 = 4 then (match (fk_c_all n).2.2.2.2.2.2.1 u1 (u3 + 1) S5 with | (_, S6) => (0, S6)) else (if u2 ≠ 3 then ((0, S5)) else (match (fk_c_all n).2.2.2.2.2.2.1 u1 (u3 + 1) S5 with | (_, S7) => (0, S7)))) : Int32 × (Nat → Nat → Int32)) → P (.inl none) (SH, S9, T) 0 0 := h
              refine xj_E.adv 3 (pc' := (if xj_cmp .eq u2 4 = true then 113 else 108)) (ls' := [(0, .ref 0), (1, .int u1), (2, .int u2), (3, .int u3)]) (st' := []) (w' := (SH, S5, T)) rfl ?_
              refine xj_E.b_eq (fun q => ?_) (fun q => ?_)
              · have hd := hd.1 q
                have h := fun v S9 e => h v S9 (Eq.trans e (if_pos q).symm)
                refine xj_E.adv 5 (pc' := 118) (ls' := [(0, .ref 0), (1, .int u1), (2, .int u2), (3, .int u3)]) (st' := [.int (u3 + 1), .int u1, .ref 0]) (w' := (SH, S5, T)) rfl ?_
                refine xj_E.callv (d := D1) (S := SH) rfl rfl rfl rfl rfl ((ih.2.2.2.2.2.2.1) _ _ _ _ _ (by omega) hd.1 ?_)
                intro v6 S6 e6
                refine ⟨_, _, rfl, rfl, rfl, rfl, ?_⟩
                have hd := hd.2
                generalize (fk_c_all n).2.2.2.2.2.2.1 u1 (u3 + 1) S5 = Xe6 at e6 hd h
                subst e6
                exact xj_E.ret rfl rfl rfl rfl (h _ _ rfl)
              · have hd := hd.2 q
                have h := fun v S9 e => h v S9 (Eq.trans e (if_neg q).symm)
                refine xj_E.adv 3 (pc' := (if xj_cmp .ne u2 3 = true then 121 else 113)) (ls' := [(0, .ref 0), (1, .int u1), (2, .int u2), (3, .int u3)]) (st' := []) (w' := (SH, S5, T)) rfl ?_
                refine xj_E.b_ne (fun q => ?_) (fun q => ?_)
                · have hd := hd.1 q
                  have h := fun v S9 e => h v S9 (Eq.trans e (if_pos q).symm)
                  exact xj_E.ret rfl rfl rfl rfl (h _ _ rfl)
                · have hd := hd.2 q
                  have h := fun v S9 e => h v S9 (Eq.trans e (if_neg q).symm)
                  refine xj_E.adv 5 (pc' := 118) (ls' := [(0, .ref 0), (1, .int u1), (2, .int u2), (3, .int u3)]) (st' := [.int (u3 + 1), .int u1, .ref 0]) (w' := (SH, S5, T)) rfl ?_
                  refine xj_E.callv (d := D1) (S := SH) rfl rfl rfl rfl rfl ((ih.2.2.2.2.2.2.1) _ _ _ _ _ (by omega) hd.1 ?_)
                  intro v7 S7 e7
                  refine ⟨_, _, rfl, rfl, rfl, rfl, ?_⟩
                  have hd := hd.2
                  generalize (fk_c_all n).2.2.2.2.2.2.1 u1 (u3 + 1) S5 = Xe7 at e7 hd h
                  subst e7
                  exact xj_E.ret rfl rfl rfl rfl (h _ _ rfl)
          · have hd := hd.2 q
            have h := fun v S9 e => h v S9 (Eq.trans e (if_neg q).symm)
            refine xj_E.adv 3 (pc' := 32) (ls' := [(0, .ref 0), (1, .int u1), (2, .int u2), (3, .int u3)]) (st' := []) (w' := (SH, (xj_set S 0 4 1), T)) rfl ?_
            exact xj_E.ret rfl rfl rfl rfl (h _ _ rfl)
    · intro u1 u2 u3 S D P hD hd h
      have h : ∀ v S9, (v, S9) = ((if u2 = 2 then (match (fk_c_all n).2.2.2.1 u1 u3 S with | (_, S1) => (0, S1)) else (if u2 = 3 then ((0, S)) else (if u2 = 4 then (match (fk_c_all n).2.2.2.2.1 u1 u3 S with | (_, S2) => (0, S2)) else (if u2 = 5 then (match (fk_c_all n).2.2.2.2.2.1 u1 2 5 u3 S with | (_, S3) => (0, S3)) else (if u2 = 6 then (match (fk_c_all n).2.2.2.2.2.1 u1 3 6 u3 S with | (_, S4) => (0, S4)) else (if u2 = 7 then ((0, S)) else (if u2 = 8 then ((0, S)) else (if u2 = 9 then (match (fk_c_all n).2.2.2.2.1 u1 u3 S with | (_, S5) => (0, S5)) else ((0, S)))))))))) : Int32 × (Nat → Nat → Int32)) → P (.inl none) (SH, S9, T) 0 0 := h
      obtain ⟨D1, rfl⟩ : ∃ D1, D = D1 + 1 := ⟨D - 1, by omega⟩
      refine xj_E.adv 1 (pc' := 1) (ls' := [(0, .ref 0), (1, .int u1), (2, .int u2), (3, .int u3)]) (st' := [.int u2]) (w' := (SH, S, T)) rfl ?_
      by_cases q2 : u2 = 2
      · have hd := hd.1 q2
        have h := fun v S9 e => h v S9 (Eq.trans e (if_pos q2).symm)
        refine xj_E.swk q2 ?_
        refine xj_E.adv 1 (pc' := 48) (ls' := [(0, .ref 0), (1, .int u1), (2, .int u2), (3, .int u3)]) (st' := []) (w' := (SH, S, T)) rfl ?_
        refine xj_E.adv 3 (pc' := 51) (ls' := [(0, .ref 0), (1, .int u1), (2, .int u2), (3, .int u3)]) (st' := [.int u3, .int u1, .ref 0]) (w' := (SH, S, T)) rfl ?_
        refine xj_E.callv (d := D1) (S := SH) rfl rfl rfl rfl rfl ((ih.2.2.2.1) _ _ _ _ _ (by omega) hd.1 ?_)
        intro v1 S1 e1
        refine ⟨_, _, rfl, rfl, rfl, rfl, ?_⟩
        have hd := hd.2
        generalize (fk_c_all n).2.2.2.1 u1 u3 S = Xe1 at e1 hd h
        subst e1
        refine xj_E.adv 1 (pc' := 89) (ls' := [(0, .ref 0), (1, .int u1), (2, .int u2), (3, .int u3)]) (st' := []) (w' := (SH, S1, T)) rfl ?_
        exact xj_E.ret rfl rfl rfl rfl (h _ _ rfl)
      · have hd := hd.2 q2
        have h := fun v S9 e => h v S9 (Eq.trans e (if_neg q2).symm)
        by_cases q3 : u2 = 3
        · have hd := hd.1 q3
          have h := fun v S9 e => h v S9 (Eq.trans e (if_pos q3).symm)
          refine xj_E.swk q3 ?_
          refine xj_E.adv 1 (pc' := 89) (ls' := [(0, .ref 0), (1, .int u1), (2, .int u2), (3, .int u3)]) (st' := []) (w' := (SH, S, T)) rfl ?_
          exact xj_E.ret rfl rfl rfl rfl (h _ _ rfl)
        · have hd := hd.2 q3
          have h := fun v S9 e => h v S9 (Eq.trans e (if_neg q3).symm)
          by_cases q4 : u2 = 4
          · have hd := hd.1 q4
            have h := fun v S9 e => h v S9 (Eq.trans e (if_pos q4).symm)
            refine xj_E.swk q4 ?_
            refine xj_E.adv 1 (pc' := 57) (ls' := [(0, .ref 0), (1, .int u1), (2, .int u2), (3, .int u3)]) (st' := []) (w' := (SH, S, T)) rfl ?_
            refine xj_E.adv 3 (pc' := 60) (ls' := [(0, .ref 0), (1, .int u1), (2, .int u2), (3, .int u3)]) (st' := [.int u3, .int u1, .ref 0]) (w' := (SH, S, T)) rfl ?_
            refine xj_E.callv (d := D1) (S := SH) rfl rfl rfl rfl rfl ((ih.2.2.2.2.1) _ _ _ _ _ (by omega) hd.1 ?_)
            intro v2 S2 e2
            refine ⟨_, _, rfl, rfl, rfl, rfl, ?_⟩
            have hd := hd.2
            generalize (fk_c_all n).2.2.2.2.1 u1 u3 S = Xe2 at e2 hd h
            subst e2
            refine xj_E.adv 1 (pc' := 89) (ls' := [(0, .ref 0), (1, .int u1), (2, .int u2), (3, .int u3)]) (st' := []) (w' := (SH, S2, T)) rfl ?_
            exact xj_E.ret rfl rfl rfl rfl (h _ _ rfl)
          · have hd := hd.2 q4
            have h := fun v S9 e => h v S9 (Eq.trans e (if_neg q4).symm)
            by_cases q5 : u2 = 5
            · have hd := hd.1 q5
              have h := fun v S9 e => h v S9 (Eq.trans e (if_pos q5).symm)
              refine xj_E.swk q5 ?_
              refine xj_E.adv 1 (pc' := 66) (ls' := [(0, .ref 0), (1, .int u1), (2, .int u2), (3, .int u3)]) (st' := []) (w' := (SH, S, T)) rfl ?_
              refine xj_E.adv 5 (pc' := 71) (ls' := [(0, .ref 0), (1, .int u1), (2, .int u2), (3, .int u3)]) (st' := [.int u3, .int 5, .int 2, .int u1, .ref 0]) (w' := (SH, S, T)) rfl ?_
              refine xj_E.callv (d := D1) (S := SH) rfl rfl rfl rfl rfl ((ih.2.2.2.2.2.1) _ _ _ _ _ _ _ (by omega) hd.1 ?_)
              intro v3 S3 e3
              refine ⟨_, _, rfl, rfl, rfl, rfl, ?_⟩
              have hd := hd.2
              generalize (fk_c_all n).2.2.2.2.2.1 u1 2 5 u3 S = Xe3 at e3 hd h
              subst e3
              refine xj_E.adv 1 (pc' := 89) (ls' := [(0, .ref 0), (1, .int u1), (2, .int u2), (3, .int u3)]) (st' := []) (w' := (SH, S3, T)) rfl ?_
              exact xj_E.ret rfl rfl rfl rfl (h _ _ rfl)
            · have hd := hd.2 q5
              have h := fun v S9 e => h v S9 (Eq.trans e (if_neg q5).symm)
              by_cases q6 : u2 = 6
              · have hd := hd.1 q6
                have h := fun v S9 e => h v S9 (Eq.trans e (if_pos q6).symm)
                refine xj_E.swk q6 ?_
                refine xj_E.adv 1 (pc' := 77) (ls' := [(0, .ref 0), (1, .int u1), (2, .int u2), (3, .int u3)]) (st' := []) (w' := (SH, S, T)) rfl ?_
                refine xj_E.adv 5 (pc' := 83) (ls' := [(0, .ref 0), (1, .int u1), (2, .int u2), (3, .int u3)]) (st' := [.int u3, .int 6, .int 3, .int u1, .ref 0]) (w' := (SH, S, T)) rfl ?_
                refine xj_E.callv (d := D1) (S := SH) rfl rfl rfl rfl rfl ((ih.2.2.2.2.2.1) _ _ _ _ _ _ _ (by omega) hd.1 ?_)
                intro v4 S4 e4
                refine ⟨_, _, rfl, rfl, rfl, rfl, ?_⟩
                have hd := hd.2
                generalize (fk_c_all n).2.2.2.2.2.1 u1 3 6 u3 S = Xe4 at e4 hd h
                subst e4
                refine xj_E.adv 1 (pc' := 89) (ls' := [(0, .ref 0), (1, .int u1), (2, .int u2), (3, .int u3)]) (st' := []) (w' := (SH, S4, T)) rfl ?_
                exact xj_E.ret rfl rfl rfl rfl (h _ _ rfl)
              · have hd := hd.2 q6
                have h := fun v S9 e => h v S9 (Eq.trans e (if_neg q6).symm)
                by_cases q7 : u2 = 7
                · have hd := hd.1 q7
                  have h := fun v S9 e => h v S9 (Eq.trans e (if_pos q7).symm)
                  refine xj_E.swk q7 ?_
                  refine xj_E.adv 1 (pc' := 89) (ls' := [(0, .ref 0), (1, .int u1), (2, .int u2), (3, .int u3)]) (st' := []) (w' := (SH, S, T)) rfl ?_
                  exact xj_E.ret rfl rfl rfl rfl (h _ _ rfl)
                · have hd := hd.2 q7
                  have h := fun v S9 e => h v S9 (Eq.trans e (if_neg q7).symm)
                  by_cases q8 : u2 = 8
                  · have hd := hd.1 q8
                    have h := fun v S9 e => h v S9 (Eq.trans e (if_pos q8).symm)
                    refine xj_E.swk q8 ?_
                    refine xj_E.adv 1 (pc' := 89) (ls' := [(0, .ref 0), (1, .int u1), (2, .int u2), (3, .int u3)]) (st' := []) (w' := (SH, S, T)) rfl ?_
                    exact xj_E.ret rfl rfl rfl rfl (h _ _ rfl)
                  · have hd := hd.2 q8
                    have h := fun v S9 e => h v S9 (Eq.trans e (if_neg q8).symm)
                    by_cases q9 : u2 = 9
                    · have hd := hd.1 q9
                      have h := fun v S9 e => h v S9 (Eq.trans e (if_pos q9).symm)
                      refine xj_E.swk q9 ?_
                      refine xj_E.adv 1 (pc' := 57) (ls' := [(0, .ref 0), (1, .int u1), (2, .int u2), (3, .int u3)]) (st' := []) (w' := (SH, S, T)) rfl ?_
                      refine xj_E.adv 3 (pc' := 60) (ls' := [(0, .ref 0), (1, .int u1), (2, .int u2), (3, .int u3)]) (st' := [.int u3, .int u1, .ref 0]) (w' := (SH, S, T)) rfl ?_
                      refine xj_E.callv (d := D1) (S := SH) rfl rfl rfl rfl rfl ((ih.2.2.2.2.1) _ _ _ _ _ (by omega) hd.1 ?_)
                      intro v5 S5 e5
                      refine ⟨_, _, rfl, rfl, rfl, rfl, ?_⟩
                      have hd := hd.2
                      generalize (fk_c_all n).2.2.2.2.1 u1 u3 S = Xe5 at e5 hd h
                      subst e5
                      refine xj_E.adv 1 (pc' := 89) (ls' := [(0, .ref 0), (1, .int u1), (2, .int u2), (3, .int u3)]) (st' := []) (w' := (SH, S5, T)) rfl ?_
                      exact xj_E.ret rfl rfl rfl rfl (h _ _ rfl)
                    · have hd := hd.2 q9
                      have h := fun v S9 e => h v S9 (Eq.trans e (if_neg q9).symm)
                      refine xj_E.swt rfl (xj_swd (fun z z1 z2 => ?_)) rfl ?_
                      · have hz : z = 2 ∨ z = 3 ∨ z = 4 ∨ z = 5 ∨ z = 6 ∨ z = 7 ∨ z = 8 ∨ z = 9 := by omega
                        rcases hz with rfl | rfl | rfl | rfl | rfl | rfl | rfl | rfl
                        · exact fun e => q2 (e.trans (by decide))
                        · exact fun e => q3 (e.trans (by decide))
                        · exact fun e => q4 (e.trans (by decide))
                        · exact fun e => q5 (e.trans (by decide))
                        · exact fun e => q6 (e.trans (by decide))
                        · exact fun e => q7 (e.trans (by decide))
                        · exact fun e => q8 (e.trans (by decide))
                        · exact fun e => q9 (e.trans (by decide))
                      exact xj_E.ret rfl rfl rfl rfl (h _ _ rfl)
    · intro u1 u2 S D P hD hd h
      have h : ∀ v S9, (v, S9) = (((fk_c_all n).2.2.2.2.2.2.2.1 u1 u2 0 S) : Int32 × (Nat → Nat → Int32)) → P (.inl none) (SH, S9, T) 0 0 := h
      refine xj_E.adv 2 (pc' := 2) (ls' := [(3, .int 0), (0, .ref 0), (1, .int u1), (2, .int u2)]) (st' := []) (w' := (SH, S, T)) rfl ?_
      refine xj_E.loc [0, 1, 2, 3] xhth rfl (show xj_E (xX L xs) D 63 2 [(0, .ref 0), (1, .int u1), (2, .int u2), (3, .int 0)] [] (SH, S, T) P from ?_)
      exact (ih.2.2.2.2.2.2.2.1) _ _ _ _ _ _ (by omega) hd h
    · intro u1 u2 S D P hD hd h
      have h : ∀ v S9, (v, S9) = (((fk_c_all n).2.2.2.2.2.2.2.2.1 u1 u2 (S 14 1) 0 S) : Int32 × (Nat → Nat → Int32)) → P (.inl none) (SH, S9, T) 0 0 := h
      refine xj_E.adv 6 (pc' := 11) (ls' := [(4, .int 0), (3, .int (S 14 1)), (0, .ref 0), (1, .int u1), (2, .int u2)]) (st' := []) (w' := (SH, S, T)) rfl ?_
      refine xj_E.loc [0, 1, 2, 3, 4] xhth rfl (show xj_E (xX L xs) D 64 11 [(0, .ref 0), (1, .int u1), (2, .int u2), (3, .int (S 14 1)), (4, .int 0)] [] (SH, S, T) P from ?_)
      exact (ih.2.2.2.2.2.2.2.2.1) _ _ _ _ _ _ _ (by omega) hd h
    · intro u1 u2 u3 u4 S D P hD hd h
      have h : ∀ v S9, (v, S9) = (((fk_c_all n).2.2.2.2.2.2.2.2.2 u1 u2 u3 u4 (S 14 1) 0 S) : Int32 × (Nat → Nat → Int32)) → P (.inl none) (SH, S9, T) 0 0 := h
      refine xj_E.adv 6 (pc' := 12) (ls' := [(6, .int 0), (5, .int (S 14 1)), (0, .ref 0), (1, .int u1), (2, .int u2), (3, .int u3), (4, .int u4)]) (st' := []) (w' := (SH, S, T)) rfl ?_
      refine xj_E.loc [0, 1, 2, 3, 4, 5, 6] xhth rfl (show xj_E (xX L xs) D 65 12 [(0, .ref 0), (1, .int u1), (2, .int u2), (3, .int u3), (4, .int u4), (5, .int (S 14 1)), (6, .int 0)] [] (SH, S, T) P from ?_)
      exact (ih.2.2.2.2.2.2.2.2.2) _ _ _ _ _ _ _ _ _ (by omega) hd h
    · intro u1 u2 S D P hD hd h
      have h : ∀ v S9, (v, S9) = ((if (r_p_hasFlag S (S 15 u1.toNatClampNeg) 1) = 0 then ((0, S)) else (if (r_p_hasEntry S (S 15 u1.toNatClampNeg)) ≠ 0 then ((0, S)) else (if (r_c_parentLets S u1) = 0 then ((0, S)) else (match (fk_c_all n).1 (S 15 u1.toNatClampNeg) (S 16 u1.toNatClampNeg) u2 S with | (_, S1) => (0, S1))))) : Int32 × (Nat → Nat → Int32)) → P (.inl none) (SH, S9, T) 0 0 := h
      obtain ⟨D1, rfl⟩ : ∃ D1, D = D1 + 1 := ⟨D - 1, by omega⟩
      refine xj_E.adv 4 (pc' := 8) (ls' := [(0, .ref 0), (1, .int u1), (2, .int u2)]) (st' := [.int u1, .ref 15]) (w' := (SH, S, T)) rfl ?_
      refine xj_E.iald rfl rfl hd.1 ?_
      have hd := hd.2
      refine xj_E.adv 5 (pc' := 16) (ls' := [(3, .int (S 15 u1.toNatClampNeg)), (0, .ref 0), (1, .int u1), (2, .int u2)]) (st' := [.int 1, .int (S 15 u1.toNatClampNeg), .ref 1]) (w' := (SH, S, T)) rfl ?_
      refine xj_E.calli (d := D1) (S := SH) rfl rfl rfl rfl rfl (xj_E.deep (ok_p_hasFlag (d := 0) hd.1 ?_) (by omega))
      intro w1 f1
      refine ⟨_, _, _, rfl, rfl, rfl, rfl, ?_⟩
      have hd := hd.2
      rw [← f1] at hd
      have h : ∀ v S9, (v, S9) = ((if (r_p_hasFlag S (S 15 u1.toNatClampNeg) 1) = 0 then ((0, S)) else (if (r_p_hasEntry S (S 15 u1.toNatClampNeg)) ≠ 0 then ((0, S)) else (if (r_c_parentLets S u1) = 0 then ((0, S)) else (match (fk_c_all n).1 (S 15 u1.toNatClampNeg) (S 16 u1.toNatClampNeg) u2 S with | (_, S1) => (0, S1))))) : Int32 × (Nat → Nat → Int32)) → P (.inl none) (SH, S9, T) 0 0 := h
      rw [← f1] at h
      refine xj_E.adv 1 (pc' := (if xj_cmp .eq w1 0 = true then 56 else 22)) (ls' := [(3, .int (S 15 u1.toNatClampNeg)), (0, .ref 0), (1, .int u1), (2, .int u2)]) (st' := []) (w' := (SH, S, T)) rfl ?_
      refine xj_E.b_eq (fun q => ?_) (fun q => ?_)
      · have hd := hd.1 q
        have h := fun v S9 e => h v S9 (Eq.trans e (if_pos q).symm)
        exact xj_E.ret rfl rfl rfl rfl (h _ _ rfl)
      · have hd := hd.2 q
        have h := fun v S9 e => h v S9 (Eq.trans e (if_neg q).symm)
        refine xj_E.adv 3 (pc' := 27) (ls' := [(3, .int (S 15 u1.toNatClampNeg)), (0, .ref 0), (1, .int u1), (2, .int u2)]) (st' := [.int (S 15 u1.toNatClampNeg), .ref 1]) (w' := (SH, S, T)) rfl ?_
        refine xj_E.calli (d := D1) (S := SH) rfl rfl rfl rfl rfl (xj_E.deep (ok_p_hasEntry (d := 0) hd.1 ?_) (by omega))
        intro w2 f2
        refine ⟨_, _, _, rfl, rfl, rfl, rfl, ?_⟩
        have hd := hd.2
        rw [← f2] at hd
        have h : ∀ v S9, (v, S9) = ((if (r_p_hasEntry S (S 15 u1.toNatClampNeg)) ≠ 0 then ((0, S)) else (if (r_c_parentLets S u1) = 0 then ((0, S)) else (match (fk_c_all n).1 (S 15 u1.toNatClampNeg) (S 16 u1.toNatClampNeg) u2 S with | (_, S1) => (0, S1)))) : Int32 × (Nat → Nat → Int32)) → P (.inl none) (SH, S9, T) 0 0 := h
        rw [← f2] at h
        refine xj_E.adv 1 (pc' := (if xj_cmp .ne w2 0 = true then 56 else 33)) (ls' := [(3, .int (S 15 u1.toNatClampNeg)), (0, .ref 0), (1, .int u1), (2, .int u2)]) (st' := []) (w' := (SH, S, T)) rfl ?_
        refine xj_E.b_ne (fun q => ?_) (fun q => ?_)
        · have hd := hd.1 q
          have h := fun v S9 e => h v S9 (Eq.trans e (if_pos q).symm)
          exact xj_E.ret rfl rfl rfl rfl (h _ _ rfl)
        · have hd := hd.2 q
          have h := fun v S9 e => h v S9 (Eq.trans e (if_neg q).symm)
          refine xj_E.adv 2 (pc' := 35) (ls' := [(3, .int (S 15 u1.toNatClampNeg)), (0, .ref 0), (1, .int u1), (2, .int u2)]) (st' := [.int u1, .ref 0]) (w' := (SH, S, T)) rfl ?_
          refine xj_E.calli (d := D1) (S := SH) rfl rfl rfl rfl rfl (xj_E.deep (ok_c_parentLets (d := 0) hd.1 ?_) (by omega))
          intro w3 f3
          refine ⟨_, _, _, rfl, rfl, rfl, rfl, ?_⟩
          have hd := hd.2
          rw [← f3] at hd
          have h : ∀ v S9, (v, S9) = ((if (r_c_parentLets S u1) = 0 then ((0, S)) else (match (fk_c_all n).1 (S 15 u1.toNatClampNeg) (S 16 u1.toNatClampNeg) u2 S with | (_, S1) => (0, S1))) : Int32 × (Nat → Nat → Int32)) → P (.inl none) (SH, S9, T) 0 0 := h
          rw [← f3] at h
          refine xj_E.adv 1 (pc' := (if xj_cmp .eq w3 0 = true then 56 else 41)) (ls' := [(3, .int (S 15 u1.toNatClampNeg)), (0, .ref 0), (1, .int u1), (2, .int u2)]) (st' := []) (w' := (SH, S, T)) rfl ?_
          refine xj_E.b_eq (fun q => ?_) (fun q => ?_)
          · have hd := hd.1 q
            have h := fun v S9 e => h v S9 (Eq.trans e (if_pos q).symm)
            exact xj_E.ret rfl rfl rfl rfl (h _ _ rfl)
          · have hd := hd.2 q
            have h := fun v S9 e => h v S9 (Eq.trans e (if_neg q).symm)
            refine xj_E.adv 6 (pc' := 51) (ls' := [(3, .int (S 15 u1.toNatClampNeg)), (0, .ref 0), (1, .int u1), (2, .int u2)]) (st' := [.int u1, .ref 16, .int (S 15 u1.toNatClampNeg), .ref 0]) (w' := (SH, S, T)) rfl ?_
            refine xj_E.iald rfl rfl hd.1 ?_
            have hd := hd.2
            refine xj_E.adv 1 (pc' := 53) (ls' := [(3, .int (S 15 u1.toNatClampNeg)), (0, .ref 0), (1, .int u1), (2, .int u2)]) (st' := [.int u2, .int (S 16 u1.toNatClampNeg), .int (S 15 u1.toNatClampNeg), .ref 0]) (w' := (SH, S, T)) rfl ?_
            refine xj_E.callv (d := D1) (S := SH) rfl rfl rfl rfl rfl ((ih.1) _ _ _ _ _ _ (by omega) hd.1 ?_)
            intro v1 S1 e1
            refine ⟨_, _, rfl, rfl, rfl, rfl, ?_⟩
            have hd := hd.2
            generalize (fk_c_all n).1 (S 15 u1.toNatClampNeg) (S 16 u1.toNatClampNeg) u2 S = Xe1 at e1 hd h
            subst e1
            exact xj_E.ret rfl rfl rfl rfl (h _ _ rfl)
    · intro u1 u2 u3 S D P hD hd h
      have h : ∀ v S9, (v, S9) = ((if (S 1 0) ≤ u3 then ((0, S)) else (if (S 3 u3.toNatClampNeg) ≠ (S 15 u1.toNatClampNeg) then ((fk_c_all n).2.2.2.2.2.2.2.1 u1 u2 (u3 + 1) S) else (match (fk_c_all n).1 u3 u1 u2 S with | (_, S1) => (fk_c_all n).2.2.2.2.2.2.2.1 u1 u2 (u3 + 1) S1))) : Int32 × (Nat → Nat → Int32)) → P (.inl none) (SH, S9, T) 0 0 := h
      obtain ⟨D1, rfl⟩ : ∃ D1, D = D1 + 1 := ⟨D - 1, by omega⟩
      refine xj_E.adv 5 (pc' := (if xj_cmp .ge u3 (S 1 0) = true then 47 else 13)) (ls' := [(0, .ref 0), (1, .int u1), (2, .int u2), (3, .int u3)]) (st' := []) (w' := (SH, S, T)) rfl ?_
      refine xj_E.b_ge (fun q => ?_) (fun q => ?_)
      · have hd := hd.1 q
        have h := fun v S9 e => h v S9 (Eq.trans e (if_pos q).symm)
        exact xj_E.ret rfl rfl rfl rfl (h _ _ rfl)
      · have hd := hd.2 q
        have h := fun v S9 e => h v S9 (Eq.trans e (if_neg q).symm)
        refine xj_E.adv 4 (pc' := 21) (ls' := [(0, .ref 0), (1, .int u1), (2, .int u2), (3, .int u3)]) (st' := [.int u3, .ref 3]) (w' := (SH, S, T)) rfl ?_
        refine xj_E.iald rfl rfl hd.1 ?_
        have hd := hd.2
        refine xj_E.adv 4 (pc' := 30) (ls' := [(0, .ref 0), (1, .int u1), (2, .int u2), (3, .int u3)]) (st' := [.int u1, .ref 15, .int (S 3 u3.toNatClampNeg)]) (w' := (SH, S, T)) rfl ?_
        refine xj_E.iald rfl rfl hd.1 ?_
        have hd := hd.2
        refine xj_E.adv 1 (pc' := (if xj_cmp .ne (S 3 u3.toNatClampNeg) (S 15 u1.toNatClampNeg) = true then 41 else 34)) (ls' := [(0, .ref 0), (1, .int u1), (2, .int u2), (3, .int u3)]) (st' := []) (w' := (SH, S, T)) rfl ?_
        refine xj_E.b_ne (fun q => ?_) (fun q => ?_)
        · have hd := hd.1 q
          have h := fun v S9 e => h v S9 (Eq.trans e (if_pos q).symm)
          refine xj_E.adv 2 (pc' := 2) (ls' := [(3, .int (u3 + 1)), (0, .ref 0), (1, .int u1), (2, .int u2)]) (st' := []) (w' := (SH, S, T)) rfl ?_
          refine xj_E.loc [0, 1, 2, 3] xhth rfl (show xj_E (xX L xs) (D1 + 1) 63 2 [(0, .ref 0), (1, .int u1), (2, .int u2), (3, .int (u3 + 1))] [] (SH, S, T) P from ?_)
          exact (ih.2.2.2.2.2.2.2.1) _ _ _ _ _ _ (by omega) hd h
        · have hd := hd.2 q
          have h := fun v S9 e => h v S9 (Eq.trans e (if_neg q).symm)
          refine xj_E.adv 4 (pc' := 38) (ls' := [(0, .ref 0), (1, .int u1), (2, .int u2), (3, .int u3)]) (st' := [.int u2, .int u1, .int u3, .ref 0]) (w' := (SH, S, T)) rfl ?_
          refine xj_E.callv (d := D1) (S := SH) rfl rfl rfl rfl rfl ((ih.1) _ _ _ _ _ _ (by omega) hd.1 ?_)
          intro v1 S1 e1
          refine ⟨_, _, rfl, rfl, rfl, rfl, ?_⟩
          have hd := hd.2
          generalize (fk_c_all n).1 u3 u1 u2 S = Xe1 at e1 hd h
          subst e1
          refine xj_E.adv 2 (pc' := 2) (ls' := [(3, .int (u3 + 1)), (0, .ref 0), (1, .int u1), (2, .int u2)]) (st' := []) (w' := (SH, S1, T)) rfl ?_
          refine xj_E.loc [0, 1, 2, 3] xhth rfl (show xj_E (xX L xs) (D1 + 1) 63 2 [(0, .ref 0), (1, .int u1), (2, .int u2), (3, .int (u3 + 1))] [] (SH, S1, T) P from ?_)
          exact (ih.2.2.2.2.2.2.2.1) _ _ _ _ _ _ (by omega) hd h
    · intro u1 u2 u3 u4 S D P hD hd h
      have h : ∀ v S9, (v, S9) = ((if u3 ≤ u4 then ((0, S)) else (if (S 16 u4.toNatClampNeg) ≠ u1 then ((fk_c_all n).2.2.2.2.2.2.2.2.1 u1 u2 u3 (u4 + 1) S) else (if (r_l_isFinal S u4) ≠ 0 then ((fk_c_all n).2.2.2.2.2.2.2.2.1 u1 u2 u3 (u4 + 1) S) else (match (fk_c_all n).2.1 u4 9 u2 S with | (_, S1) => (fk_c_all n).2.2.2.2.2.2.2.2.1 u1 u2 u3 (u4 + 1) S1)))) : Int32 × (Nat → Nat → Int32)) → P (.inl none) (SH, S9, T) 0 0 := h
      obtain ⟨D1, rfl⟩ : ∃ D1, D = D1 + 1 := ⟨D - 1, by omega⟩
      refine xj_E.adv 3 (pc' := (if xj_cmp .ge u4 u3 = true then 58 else 17)) (ls' := [(0, .ref 0), (1, .int u1), (2, .int u2), (3, .int u3), (4, .int u4)]) (st' := []) (w' := (SH, S, T)) rfl ?_
      refine xj_E.b_ge (fun q => ?_) (fun q => ?_)
      · have hd := hd.1 q
        have h := fun v S9 e => h v S9 (Eq.trans e (if_pos q).symm)
        exact xj_E.ret rfl rfl rfl rfl (h _ _ rfl)
      · have hd := hd.2 q
        have h := fun v S9 e => h v S9 (Eq.trans e (if_neg q).symm)
        refine xj_E.adv 4 (pc' := 26) (ls' := [(0, .ref 0), (1, .int u1), (2, .int u2), (3, .int u3), (4, .int u4)]) (st' := [.int u4, .ref 16]) (w' := (SH, S, T)) rfl ?_
        refine xj_E.iald rfl rfl hd.1 ?_
        have hd := hd.2
        refine xj_E.adv 2 (pc' := (if xj_cmp .ne (S 16 u4.toNatClampNeg) u1 = true then 52 else 31)) (ls' := [(0, .ref 0), (1, .int u1), (2, .int u2), (3, .int u3), (4, .int u4)]) (st' := []) (w' := (SH, S, T)) rfl ?_
        refine xj_E.b_ne (fun q => ?_) (fun q => ?_)
        · have hd := hd.1 q
          have h := fun v S9 e => h v S9 (Eq.trans e (if_pos q).symm)
          refine xj_E.adv 2 (pc' := 11) (ls' := [(4, .int (u4 + 1)), (0, .ref 0), (1, .int u1), (2, .int u2), (3, .int u3)]) (st' := []) (w' := (SH, S, T)) rfl ?_
          refine xj_E.loc [0, 1, 2, 3, 4] xhth rfl (show xj_E (xX L xs) (D1 + 1) 64 11 [(0, .ref 0), (1, .int u1), (2, .int u2), (3, .int u3), (4, .int (u4 + 1))] [] (SH, S, T) P from ?_)
          exact (ih.2.2.2.2.2.2.2.2.1) _ _ _ _ _ _ _ (by omega) hd h
        · have hd := hd.2 q
          have h := fun v S9 e => h v S9 (Eq.trans e (if_neg q).symm)
          refine xj_E.adv 3 (pc' := 37) (ls' := [(0, .ref 0), (1, .int u1), (2, .int u2), (3, .int u3), (4, .int u4)]) (st' := [.int u4, .ref 14]) (w' := (SH, S, T)) rfl ?_
          refine xj_E.calli (d := D1) (S := SH) rfl rfl rfl rfl rfl (xj_E.deep (ok_l_isFinal (d := 0) hd.1 ?_) (by omega))
          intro w1 f1
          refine ⟨_, _, _, rfl, rfl, rfl, rfl, ?_⟩
          have hd := hd.2
          rw [← f1] at hd
          have h : ∀ v S9, (v, S9) = ((if (r_l_isFinal S u4) ≠ 0 then ((fk_c_all n).2.2.2.2.2.2.2.2.1 u1 u2 u3 (u4 + 1) S) else (match (fk_c_all n).2.1 u4 9 u2 S with | (_, S1) => (fk_c_all n).2.2.2.2.2.2.2.2.1 u1 u2 u3 (u4 + 1) S1)) : Int32 × (Nat → Nat → Int32)) → P (.inl none) (SH, S9, T) 0 0 := h
          rw [← f1] at h
          refine xj_E.adv 1 (pc' := (if xj_cmp .ne w1 0 = true then 52 else 43)) (ls' := [(0, .ref 0), (1, .int u1), (2, .int u2), (3, .int u3), (4, .int u4)]) (st' := []) (w' := (SH, S, T)) rfl ?_
          refine xj_E.b_ne (fun q => ?_) (fun q => ?_)
          · have hd := hd.1 q
            have h := fun v S9 e => h v S9 (Eq.trans e (if_pos q).symm)
            refine xj_E.adv 2 (pc' := 11) (ls' := [(4, .int (u4 + 1)), (0, .ref 0), (1, .int u1), (2, .int u2), (3, .int u3)]) (st' := []) (w' := (SH, S, T)) rfl ?_
            refine xj_E.loc [0, 1, 2, 3, 4] xhth rfl (show xj_E (xX L xs) (D1 + 1) 64 11 [(0, .ref 0), (1, .int u1), (2, .int u2), (3, .int u3), (4, .int (u4 + 1))] [] (SH, S, T) P from ?_)
            exact (ih.2.2.2.2.2.2.2.2.1) _ _ _ _ _ _ _ (by omega) hd h
          · have hd := hd.2 q
            have h := fun v S9 e => h v S9 (Eq.trans e (if_neg q).symm)
            refine xj_E.adv 4 (pc' := 49) (ls' := [(0, .ref 0), (1, .int u1), (2, .int u2), (3, .int u3), (4, .int u4)]) (st' := [.int u2, .int 9, .int u4, .ref 0]) (w' := (SH, S, T)) rfl ?_
            refine xj_E.callv (d := D1) (S := SH) rfl rfl rfl rfl rfl ((ih.2.1) _ _ _ _ _ _ (by omega) hd.1 ?_)
            intro v1 S1 e1
            refine ⟨_, _, rfl, rfl, rfl, rfl, ?_⟩
            have hd := hd.2
            generalize (fk_c_all n).2.1 u4 9 u2 S = Xe1 at e1 hd h
            subst e1
            refine xj_E.adv 2 (pc' := 11) (ls' := [(4, .int (u4 + 1)), (0, .ref 0), (1, .int u1), (2, .int u2), (3, .int u3)]) (st' := []) (w' := (SH, S1, T)) rfl ?_
            refine xj_E.loc [0, 1, 2, 3, 4] xhth rfl (show xj_E (xX L xs) (D1 + 1) 64 11 [(0, .ref 0), (1, .int u1), (2, .int u2), (3, .int u3), (4, .int (u4 + 1))] [] (SH, S1, T) P from ?_)
            exact (ih.2.2.2.2.2.2.2.2.1) _ _ _ _ _ _ _ (by omega) hd h
    · intro u1 u2 u3 u4 u5 u6 S D P hD hd h
      have h : ∀ v S9, (v, S9) = ((if u5 ≤ u6 then ((0, S)) else (if (S 16 u6.toNatClampNeg) ≠ u1 then ((fk_c_all n).2.2.2.2.2.2.2.2.2 u1 u2 u3 u4 u5 (u6 + 1) S) else (if (S 17 u6.toNatClampNeg) ≠ u2 then ((fk_c_all n).2.2.2.2.2.2.2.2.2 u1 u2 u3 u4 u5 (u6 + 1) S) else (match (fk_c_all n).2.1 u6 u3 u4 S with | (_, S1) => (fk_c_all n).2.2.2.2.2.2.2.2.2 u1 u2 u3 u4 u5 (u6 + 1) S1)))) : Int32 × (Nat → Nat → Int32)) → P (.inl none) (SH, S9, T) 0 0 := h
      obtain ⟨D1, rfl⟩ : ∃ D1, D = D1 + 1 := ⟨D - 1, by omega⟩
      refine xj_E.adv 3 (pc' := (if xj_cmp .ge u6 u5 = true then 62 else 19)) (ls' := [(0, .ref 0), (1, .int u1), (2, .int u2), (3, .int u3), (4, .int u4), (5, .int u5), (6, .int u6)]) (st' := []) (w' := (SH, S, T)) rfl ?_
      refine xj_E.b_ge (fun q => ?_) (fun q => ?_)
      · have hd := hd.1 q
        have h := fun v S9 e => h v S9 (Eq.trans e (if_pos q).symm)
        exact xj_E.ret rfl rfl rfl rfl (h _ _ rfl)
      · have hd := hd.2 q
        have h := fun v S9 e => h v S9 (Eq.trans e (if_neg q).symm)
        refine xj_E.adv 4 (pc' := 28) (ls' := [(0, .ref 0), (1, .int u1), (2, .int u2), (3, .int u3), (4, .int u4), (5, .int u5), (6, .int u6)]) (st' := [.int u6, .ref 16]) (w' := (SH, S, T)) rfl ?_
        refine xj_E.iald rfl rfl hd.1 ?_
        have hd := hd.2
        refine xj_E.adv 2 (pc' := (if xj_cmp .ne (S 16 u6.toNatClampNeg) u1 = true then 56 else 33)) (ls' := [(0, .ref 0), (1, .int u1), (2, .int u2), (3, .int u3), (4, .int u4), (5, .int u5), (6, .int u6)]) (st' := []) (w' := (SH, S, T)) rfl ?_
        refine xj_E.b_ne (fun q => ?_) (fun q => ?_)
        · have hd := hd.1 q
          have h := fun v S9 e => h v S9 (Eq.trans e (if_pos q).symm)
          refine xj_E.adv 2 (pc' := 12) (ls' := [(6, .int (u6 + 1)), (0, .ref 0), (1, .int u1), (2, .int u2), (3, .int u3), (4, .int u4), (5, .int u5)]) (st' := []) (w' := (SH, S, T)) rfl ?_
          refine xj_E.loc [0, 1, 2, 3, 4, 5, 6] xhth rfl (show xj_E (xX L xs) (D1 + 1) 65 12 [(0, .ref 0), (1, .int u1), (2, .int u2), (3, .int u3), (4, .int u4), (5, .int u5), (6, .int (u6 + 1))] [] (SH, S, T) P from ?_)
          exact (ih.2.2.2.2.2.2.2.2.2) _ _ _ _ _ _ _ _ _ (by omega) hd h
        · have hd := hd.2 q
          have h := fun v S9 e => h v S9 (Eq.trans e (if_neg q).symm)
          refine xj_E.adv 4 (pc' := 42) (ls' := [(0, .ref 0), (1, .int u1), (2, .int u2), (3, .int u3), (4, .int u4), (5, .int u5), (6, .int u6)]) (st' := [.int u6, .ref 17]) (w' := (SH, S, T)) rfl ?_
          refine xj_E.iald rfl rfl hd.1 ?_
          have hd := hd.2
          refine xj_E.adv 2 (pc' := (if xj_cmp .ne (S 17 u6.toNatClampNeg) u2 = true then 56 else 47)) (ls' := [(0, .ref 0), (1, .int u1), (2, .int u2), (3, .int u3), (4, .int u4), (5, .int u5), (6, .int u6)]) (st' := []) (w' := (SH, S, T)) rfl ?_
          refine xj_E.b_ne (fun q => ?_) (fun q => ?_)
          · have hd := hd.1 q
            have h := fun v S9 e => h v S9 (Eq.trans e (if_pos q).symm)
            refine xj_E.adv 2 (pc' := 12) (ls' := [(6, .int (u6 + 1)), (0, .ref 0), (1, .int u1), (2, .int u2), (3, .int u3), (4, .int u4), (5, .int u5)]) (st' := []) (w' := (SH, S, T)) rfl ?_
            refine xj_E.loc [0, 1, 2, 3, 4, 5, 6] xhth rfl (show xj_E (xX L xs) (D1 + 1) 65 12 [(0, .ref 0), (1, .int u1), (2, .int u2), (3, .int u3), (4, .int u4), (5, .int u5), (6, .int (u6 + 1))] [] (SH, S, T) P from ?_)
            exact (ih.2.2.2.2.2.2.2.2.2) _ _ _ _ _ _ _ _ _ (by omega) hd h
          · have hd := hd.2 q
            have h := fun v S9 e => h v S9 (Eq.trans e (if_neg q).symm)
            refine xj_E.adv 4 (pc' := 53) (ls' := [(0, .ref 0), (1, .int u1), (2, .int u2), (3, .int u3), (4, .int u4), (5, .int u5), (6, .int u6)]) (st' := [.int u4, .int u3, .int u6, .ref 0]) (w' := (SH, S, T)) rfl ?_
            refine xj_E.callv (d := D1) (S := SH) rfl rfl rfl rfl rfl ((ih.2.1) _ _ _ _ _ _ (by omega) hd.1 ?_)
            intro v1 S1 e1
            refine ⟨_, _, rfl, rfl, rfl, rfl, ?_⟩
            have hd := hd.2
            generalize (fk_c_all n).2.1 u6 u3 u4 S = Xe1 at e1 hd h
            subst e1
            refine xj_E.adv 2 (pc' := 12) (ls' := [(6, .int (u6 + 1)), (0, .ref 0), (1, .int u1), (2, .int u2), (3, .int u3), (4, .int u4), (5, .int u5)]) (st' := []) (w' := (SH, S1, T)) rfl ?_
            refine xj_E.loc [0, 1, 2, 3, 4, 5, 6] xhth rfl (show xj_E (xX L xs) (D1 + 1) 65 12 [(0, .ref 0), (1, .int u1), (2, .int u2), (3, .int u3), (4, .int u4), (5, .int u5), (6, .int (u6 + 1))] [] (SH, S1, T) P from ?_)
            exact (ih.2.2.2.2.2.2.2.2.2) _ _ _ _ _ _ _ _ _ (by omega) hd h
