/-! a method that stores: our machine does so -/
set_option maxHeartbeats 4000000 in
set_option maxRecDepth 100000 in
theorem okk_m_make {L : Nat} {xs : Nat → Int32} {T : Nat → Nat → Int64} (n : Nat) : (∀  S D (P : (Option Value ⊕ Nat) → xj_W → Nat → Nat → Prop), 5 ≤ D → (dk_m_make n).1  S → (∀ v S9, (v, S9) = (fk_m_make n).1  S → P (.inl none) (SH, S9, T) 0 0) → xj_E (xX L xs) D 88 11 [(0, .ref 32)] [] (SH, S, T) P) ∧
    (∀ (u3 : Int32) (u4 : Int32) (u5 : Int32) S D (P : (Option Value ⊕ Nat) → xj_W → Nat → Nat → Prop), 5 ≤ D → (dk_m_make n).2 u3 u4 u5 S → (∀ v S9, (v, S9) = (fk_m_make n).2 u3 u4 u5 S → P (.inl none) (SH, S9, T) 0 0) → xj_E (xX L xs) D 88 63 [(0, .ref 32), (3, .int u3), (4, .int u4), (5, .int u5)] [] (SH, S, T) P) := by
  induction n with
  | zero => exact ⟨fun _ _ _ _ hd _ => hd.elim, fun _ _ _ _ _ _ _ hd _ => hd.elim⟩
  | succ n ih =>
    refine ⟨?_, ?_⟩
    · intro  S D P hD hd h
      have h : ∀ v S9, (v, S9) = ((if (S 32 39) ≤ 0 then ((0, S)) else (if (S 32 38) ≠ 0 then ((0, S)) else ((fk_m_make n).2 (S 61 ((S 32 39) - 1).toNatClampNeg) (S 62 ((S 32 39) - 1).toNatClampNeg) (S 63 ((S 32 39) - 1).toNatClampNeg) S))) : Int32 × (Nat → Nat → Int32)) → P (.inl none) (SH, S9, T) 0 0 := h
      refine xj_E.adv 3 (pc' := (if xj_cmp .le (S 32 39) 0 = true then 166 else 18)) (ls' := [(0, .ref 32)]) (st' := []) (w' := (SH, S, T)) rfl ?_
      refine xj_E.b_le (fun q => ?_) (fun q => ?_)
      · have hd := hd.1 q
        have h := fun v S9 e => h v S9 (Eq.trans e (if_pos q).symm)
        exact xj_E.ret rfl rfl rfl rfl (h _ _ rfl)
      · have hd := hd.2 q
        have h := fun v S9 e => h v S9 (Eq.trans e (if_neg q).symm)
        refine xj_E.adv 3 (pc' := (if xj_cmp .ne (S 32 38) 0 = true then 166 else 25)) (ls' := [(0, .ref 32)]) (st' := []) (w' := (SH, S, T)) rfl ?_
        refine xj_E.b_ne (fun q => ?_) (fun q => ?_)
        · have hd := hd.1 q
          have h := fun v S9 e => h v S9 (Eq.trans e (if_pos q).symm)
          exact xj_E.ret rfl rfl rfl rfl (h _ _ rfl)
        · have hd := hd.2 q
          have h := fun v S9 e => h v S9 (Eq.trans e (if_neg q).symm)
          refine xj_E.adv 6 (pc' := 35) (ls' := [(0, .ref 32)]) (st' := [.int ((S 32 39) - 1), .ref 61]) (w' := (SH, S, T)) rfl ?_
          refine xj_E.iald rfl rfl hd.1 ?_
          have hd := hd.2
          refine xj_E.adv 7 (pc' := 47) (ls' := [(3, .int (S 61 ((S 32 39) - 1).toNatClampNeg)), (0, .ref 32)]) (st' := [.int ((S 32 39) - 1), .ref 62]) (w' := (SH, S, T)) rfl ?_
          refine xj_E.iald rfl rfl hd.1 ?_
          have hd := hd.2
          refine xj_E.adv 7 (pc' := 60) (ls' := [(4, .int (S 62 ((S 32 39) - 1).toNatClampNeg)), (3, .int (S 61 ((S 32 39) - 1).toNatClampNeg)), (0, .ref 32)]) (st' := [.int ((S 32 39) - 1), .ref 63]) (w' := (SH, S, T)) rfl ?_
          refine xj_E.iald rfl rfl hd.1 ?_
          have hd := hd.2
          refine xj_E.adv 1 (pc' := 63) (ls' := [(5, .int (S 63 ((S 32 39) - 1).toNatClampNeg)), (4, .int (S 62 ((S 32 39) - 1).toNatClampNeg)), (3, .int (S 61 ((S 32 39) - 1).toNatClampNeg)), (0, .ref 32)]) (st' := []) (w' := (SH, S, T)) rfl ?_
          refine xj_E.loc [0, 3, 4, 5] xhth rfl (show xj_E (xX L xs) D 88 63 [(0, .ref 32), (3, .int (S 61 ((S 32 39) - 1).toNatClampNeg)), (4, .int (S 62 ((S 32 39) - 1).toNatClampNeg)), (5, .int (S 63 ((S 32 39) - 1).toNatClampNeg))] [] (SH, S, T) P from ?_)
          exact (ih.2) _ _ _ _ _ _ (by omega) hd h
    · intro u3 u4 u5 S D P hD hd h
      have h : ∀ v S9, (v, S9) = ((if (S 32 17) ≤ u5 then (if (S 32 17) ≤ u5 then (match f_m_again u3 u4 (xj_set (xj_set S 63 ((S 32 39) - 1).toNatClampNeg (u5 + 1)) 32 39 ((S 32 39) - 1)) with | (_, S1) => (fk_m_make n).1 S1) else (if u4 ≠ 4 then (match f_m_enter u5 u4 (xj_set S 63 ((S 32 39) - 1).toNatClampNeg (u5 + 1)) with | (_, S2) => (fk_m_make n).1 S2) else (match f_m_enter u5 9 (xj_set S 63 ((S 32 39) - 1).toNatClampNeg (u5 + 1)) with | (_, S3) => (fk_m_make n).1 S3))) else (if (S 46 u5.toNatClampNeg) ≠ u3 then ((fk_m_make n).2 u3 u4 (u5 + 1) S) else (if (r_m_follows S u5 u4) ≠ 0 then (if (S 32 17) ≤ u5 then (match f_m_again u3 u4 (xj_set (xj_set S 63 ((S 32 39) - 1).toNatClampNeg (u5 + 1)) 32 39 ((S 32 39) - 1)) with | (_, S4) => (fk_m_make n).1 S4) else (if u4 ≠ 4 then (match f_m_enter u5 u4 (xj_set S 63 ((S 32 39) - 1).toNatClampNeg (u5 + 1)) with | (_, S5) => (fk_m_make n).1 S5) else (match f_m_enter u5 9 (xj_set S 63 ((S 32 39) - 1).toNatClampNeg (u5 + 1)) with | (_, S6) => (fk_m_make n).1 S6))) else ((fk_m_make n).2 u3 u4 (u5 + 1) S)))) : Int32 × (Nat → Nat → Int32)) → P (.inl none) (SH, S9, T) 0 0 := h
      obtain ⟨D1, rfl⟩ : ∃ D1, D = D1 + 1 := ⟨D - 1, by omega⟩
      refine xj_E.adv 4 (pc' := (if xj_cmp .ge u5 (S 32 17) = true then 100 else 72)) (ls' := [(0, .ref 32), (3, .int u3), (4, .int u4), (5, .int u5)]) (st' := []) (w' := (SH, S, T)) rfl ?_
      refine xj_E.b_ge (fun q => ?_) (fun q => ?_)
      · have hd := hd.1 q
        have h := fun v S9 e => h v S9 (Eq.trans e (if_pos q).symm)
        refine xj_E.adv 9 (pc' := 114) (ls' := [(0, .ref 32), (3, .int u3), (4, .int u4), (5, .int u5)]) (st' := [.int (u5 + 1), .int ((S 32 39) - 1), .ref 63]) (w' := (SH, S, T)) rfl ?_
        refine xj_E.iast rfl rfl hd.1 ?_
        have hd := hd.2
        refine xj_E.adv 4 (pc' := (if xj_cmp .ge u5 (S 32 17) = true then 146 else 124)) (ls' := [(0, .ref 32), (3, .int u3), (4, .int u4), (5, .int u5)]) (st' := []) (w' := (SH, (xj_set S 63 ((S 32 39) - 1).toNatClampNeg (u5 + 1)), T)) rfl ?_
        refine xj_E.b_ge (fun q => ?_) (fun q => ?_)
        · have hd := hd.1 q
          have h := fun v S9 e => h v S9 (Eq.trans e (if_pos q).symm)
          refine xj_E.adv 9 (pc' := 160) (ls' := [(0, .ref 32), (3, .int u3), (4, .int u4), (5, .int u5)]) (st' := [.int u4, .int u3, .ref 32]) (w' := (SH, (xj_set (xj_set S 63 ((S 32 39) - 1).toNatClampNeg (u5 + 1)) 32 39 ((S 32 39) - 1)), T)) rfl ?_
          refine xj_E.callv (d := D1) (S := SH) rfl rfl rfl rfl rfl (ok_m_again (by omega) hd.1 ?_)
          intro v1 S1 e1
          refine ⟨_, _, rfl, rfl, rfl, rfl, ?_⟩
          have hd := hd.2
          generalize f_m_again u3 u4 (xj_set (xj_set S 63 ((S 32 39) - 1).toNatClampNeg (u5 + 1)) 32 39 ((S 32 39) - 1)) = Xe1 at e1 hd h
          subst e1
          refine xj_E.adv 1 (pc' := 11) (ls' := [(0, .ref 32), (3, .int u3), (4, .int u4), (5, .int u5)]) (st' := []) (w' := (SH, S1, T)) rfl ?_
          refine xj_E.loc [0] xhth rfl (show xj_E (xX L xs) (D1 + 1) 88 11 [(0, .ref 32)] [] (SH, S1, T) P from ?_)
          exact (ih.1) _ _ _ (by omega) hd h
        · have hd := hd.2 q
          have h := fun v S9 e => h v S9 (Eq.trans e (if_neg q).symm)
          refine xj_E.adv 5 (pc' := (if xj_cmp .ne u4 4 = true then 138 else 133)) (ls' := [(0, .ref 32), (3, .int u3), (4, .int u4), (5, .int u5)]) (st' := [.int u5, .ref 32]) (w' := (SH, (xj_set S 63 ((S 32 39) - 1).toNatClampNeg (u5 + 1)), T)) rfl ?_
          refine xj_E.b_ne (fun q => ?_) (fun q => ?_)
          · have hd := hd.1 q
            have h := fun v S9 e => h v S9 (Eq.trans e (if_pos q).symm)
            refine xj_E.adv 1 (pc' := 140) (ls' := [(0, .ref 32), (3, .int u3), (4, .int u4), (5, .int u5)]) (st' := [.int u4, .int u5, .ref 32]) (w' := (SH, (xj_set S 63 ((S 32 39) - 1).toNatClampNeg (u5 + 1)), T)) rfl ?_
            refine xj_E.callv (d := D1) (S := SH) rfl rfl rfl rfl rfl (ok_m_enter (by omega) hd.1 ?_)
            intro v2 S2 e2
            refine ⟨_, _, rfl, rfl, rfl, rfl, ?_⟩
            have hd := hd.2
            generalize f_m_enter u5 u4 (xj_set S 63 ((S 32 39) - 1).toNatClampNeg (u5 + 1)) = Xe2 at e2 hd h
            subst e2
            refine xj_E.adv 2 (pc' := 11) (ls' := [(0, .ref 32), (3, .int u3), (4, .int u4), (5, .int u5)]) (st' := []) (w' := (SH, S2, T)) rfl ?_
            refine xj_E.loc [0] xhth rfl (show xj_E (xX L xs) (D1 + 1) 88 11 [(0, .ref 32)] [] (SH, S2, T) P from ?_)
            exact (ih.1) _ _ _ (by omega) hd h
          · have hd := hd.2 q
            have h := fun v S9 e => h v S9 (Eq.trans e (if_neg q).symm)
            refine xj_E.adv 2 (pc' := 140) (ls' := [(0, .ref 32), (3, .int u3), (4, .int u4), (5, .int u5)]) (st' := [.int 9, .int u5, .ref 32]) (w' := (SH, (xj_set S 63 ((S 32 39) - 1).toNatClampNeg (u5 + 1)), T)) rfl ?_
            refine xj_E.callv (d := D1) (S := SH) rfl rfl rfl rfl rfl (ok_m_enter (by omega) hd.1 ?_)
            intro v3 S3 e3
            refine ⟨_, _, rfl, rfl, rfl, rfl, ?_⟩
            have hd := hd.2
            generalize f_m_enter u5 9 (xj_set S 63 ((S 32 39) - 1).toNatClampNeg (u5 + 1)) = Xe3 at e3 hd h
            subst e3
            refine xj_E.adv 2 (pc' := 11) (ls' := [(0, .ref 32), (3, .int u3), (4, .int u4), (5, .int u5)]) (st' := []) (w' := (SH, S3, T)) rfl ?_
            refine xj_E.loc [0] xhth rfl (show xj_E (xX L xs) (D1 + 1) 88 11 [(0, .ref 32)] [] (SH, S3, T) P from ?_)
            exact (ih.1) _ _ _ (by omega) hd h
      · have hd := hd.2 q
        have h := fun v S9 e => h v S9 (Eq.trans e (if_neg q).symm)
        refine xj_E.adv 3 (pc' := 78) (ls' := [(0, .ref 32), (3, .int u3), (4, .int u4), (5, .int u5)]) (st' := [.int u5, .ref 46]) (w' := (SH, S, T)) rfl ?_
        refine xj_E.iald rfl rfl hd.1 ?_
        have hd := hd.2
        refine xj_E.adv 2 (pc' := (if xj_cmp .ne (S 46 u5.toNatClampNeg) u3 = true then 94 else 83)) (ls' := [(0, .ref 32), (3, .int u3), (4, .int u4), (5, .int u5)]) (st' := []) (w' := (SH, S, T)) rfl ?_
        refine xj_E.b_ne (fun q => ?_) (fun q => ?_)
        · have hd := hd.1 q
          have h := fun v S9 e => h v S9 (Eq.trans e (if_pos q).symm)
          refine xj_E.adv 2 (pc' := 63) (ls' := [(5, .int (u5 + 1)), (0, .ref 32), (3, .int u3), (4, .int u4)]) (st' := []) (w' := (SH, S, T)) rfl ?_
          refine xj_E.loc [0, 3, 4, 5] xhth rfl (show xj_E (xX L xs) (D1 + 1) 88 63 [(0, .ref 32), (3, .int u3), (4, .int u4), (5, .int (u5 + 1))] [] (SH, S, T) P from ?_)
          exact (ih.2) _ _ _ _ _ _ (by omega) hd h
        · have hd := hd.2 q
          have h := fun v S9 e => h v S9 (Eq.trans e (if_neg q).symm)
          refine xj_E.adv 3 (pc' := 88) (ls' := [(0, .ref 32), (3, .int u3), (4, .int u4), (5, .int u5)]) (st' := [.int u4, .int u5, .ref 32]) (w' := (SH, S, T)) rfl ?_
          refine xj_E.calli (d := D1) (S := SH) rfl rfl rfl rfl rfl (xj_E.deep (ok_m_follows (d := 0) hd.1 ?_) (by omega))
          intro w1 f1
          refine ⟨_, _, _, rfl, rfl, rfl, rfl, ?_⟩
          have hd := hd.2
          rw [← f1] at hd
          have h : ∀ v S9, (v, S9) = ((if (r_m_follows S u5 u4) ≠ 0 then (if (S 32 17) ≤ u5 then (match f_m_again u3 u4 (xj_set (xj_set S 63 ((S 32 39) - 1).toNatClampNeg (u5 + 1)) 32 39 ((S 32 39) - 1)) with | (_, S4) => (fk_m_make n).1 S4) else (if u4 ≠ 4 then (match f_m_enter u5 u4 (xj_set S 63 ((S 32 39) - 1).toNatClampNeg (u5 + 1)) with | (_, S5) => (fk_m_make n).1 S5) else (match f_m_enter u5 9 (xj_set S 63 ((S 32 39) - 1).toNatClampNeg (u5 + 1)) with | (_, S6) => (fk_m_make n).1 S6))) else ((fk_m_make n).2 u3 u4 (u5 + 1) S)) : Int32 × (Nat → Nat → Int32)) → P (.inl none) (SH, S9, T) 0 0 := h
          rw [← f1] at h
          refine xj_E.adv 1 (pc' := (if xj_cmp .ne w1 0 = true then 100 else 94)) (ls' := [(0, .ref 32), (3, .int u3), (4, .int u4), (5, .int u5)]) (st' := []) (w' := (SH, S, T)) rfl ?_
          refine xj_E.b_ne (fun q => ?_) (fun q => ?_)
          · have hd := hd.1 q
            have h := fun v S9 e => h v S9 (Eq.trans e (if_pos q).symm)
            refine xj_E.adv 9 (pc' := 114) (ls' := [(0, .ref 32), (3, .int u3), (4, .int u4), (5, .int u5)]) (st' := [.int (u5 + 1), .int ((S 32 39) - 1), .ref 63]) (w' := (SH, S, T)) rfl ?_
            refine xj_E.iast rfl rfl hd.1 ?_
            have hd := hd.2
            refine xj_E.adv 4 (pc' := (if xj_cmp .ge u5 (S 32 17) = true then 146 else 124)) (ls' := [(0, .ref 32), (3, .int u3), (4, .int u4), (5, .int u5)]) (st' := []) (w' := (SH, (xj_set S 63 ((S 32 39) - 1).toNatClampNeg (u5 + 1)), T)) rfl ?_
            refine xj_E.b_ge (fun q => ?_) (fun q => ?_)
            · have hd := hd.1 q
              have h := fun v S9 e => h v S9 (Eq.trans e (if_pos q).symm)
              refine xj_E.adv 9 (pc' := 160) (ls' := [(0, .ref 32), (3, .int u3), (4, .int u4), (5, .int u5)]) (st' := [.int u4, .int u3, .ref 32]) (w' := (SH, (xj_set (xj_set S 63 ((S 32 39) - 1).toNatClampNeg (u5 + 1)) 32 39 ((S 32 39) - 1)), T)) rfl ?_
              refine xj_E.callv (d := D1) (S := SH) rfl rfl rfl rfl rfl (ok_m_again (by omega) hd.1 ?_)
              intro v4 S4 e4
              refine ⟨_, _, rfl, rfl, rfl, rfl, ?_⟩
              have hd := hd.2
              generalize f_m_again u3 u4 (xj_set (xj_set S 63 ((S 32 39) - 1).toNatClampNeg (u5 + 1)) 32 39 ((S 32 39) - 1)) = Xe4 at e4 hd h
              subst e4
              refine xj_E.adv 1 (pc' := 11) (ls' := [(0, .ref 32), (3, .int u3), (4, .int u4), (5, .int u5)]) (st' := []) (w' := (SH, S4, T)) rfl ?_
              refine xj_E.loc [0] xhth rfl (show xj_E (xX L xs) (D1 + 1) 88 11 [(0, .ref 32)] [] (SH, S4, T) P from ?_)
              exact (ih.1) _ _ _ (by omega) hd h
            · have hd := hd.2 q
              have h := fun v S9 e => h v S9 (Eq.trans e (if_neg q).symm)
              refine xj_E.adv 5 (pc' := (if xj_cmp .ne u4 4 = true then 138 else 133)) (ls' := [(0, .ref 32), (3, .int u3), (4, .int u4), (5, .int u5)]) (st' := [.int u5, .ref 32]) (w' := (SH, (xj_set S 63 ((S 32 39) - 1).toNatClampNeg (u5 + 1)), T)) rfl ?_
              refine xj_E.b_ne (fun q => ?_) (fun q => ?_)
              · have hd := hd.1 q
                have h := fun v S9 e => h v S9 (Eq.trans e (if_pos q).symm)
                refine xj_E.adv 1 (pc' := 140) (ls' := [(0, .ref 32), (3, .int u3), (4, .int u4), (5, .int u5)]) (st' := [.int u4, .int u5, .ref 32]) (w' := (SH, (xj_set S 63 ((S 32 39) - 1).toNatClampNeg (u5 + 1)), T)) rfl ?_
                refine xj_E.callv (d := D1) (S := SH) rfl rfl rfl rfl rfl (ok_m_enter (by omega) hd.1 ?_)
                intro v5 S5 e5
                refine ⟨_, _, rfl, rfl, rfl, rfl, ?_⟩
                have hd := hd.2
                generalize f_m_enter u5 u4 (xj_set S 63 ((S 32 39) - 1).toNatClampNeg (u5 + 1)) = Xe5 at e5 hd h
                subst e5
                refine xj_E.adv 2 (pc' := 11) (ls' := [(0, .ref 32), (3, .int u3), (4, .int u4), (5, .int u5)]) (st' := []) (w' := (SH, S5, T)) rfl ?_
                refine xj_E.loc [0] xhth rfl (show xj_E (xX L xs) (D1 + 1) 88 11 [(0, .ref 32)] [] (SH, S5, T) P from ?_)
                exact (ih.1) _ _ _ (by omega) hd h
              · have hd := hd.2 q
                have h := fun v S9 e => h v S9 (Eq.trans e (if_neg q).symm)
                refine xj_E.adv 2 (pc' := 140) (ls' := [(0, .ref 32), (3, .int u3), (4, .int u4), (5, .int u5)]) (st' := [.int 9, .int u5, .ref 32]) (w' := (SH, (xj_set S 63 ((S 32 39) - 1).toNatClampNeg (u5 + 1)), T)) rfl ?_
                refine xj_E.callv (d := D1) (S := SH) rfl rfl rfl rfl rfl (ok_m_enter (by omega) hd.1 ?_)
                intro v6 S6 e6
                refine ⟨_, _, rfl, rfl, rfl, rfl, ?_⟩
                have hd := hd.2
                generalize f_m_enter u5 9 (xj_set S 63 ((S 32 39) - 1).toNatClampNeg (u5 + 1)) = Xe6 at e6 hd h
                subst e6
                refine xj_E.adv 2 (pc' := 11) (ls' := [(0, .ref 32), (3, .int u3), (4, .int u4), (5, .int u5)]) (st' := []) (w' := (SH, S6, T)) rfl ?_
                refine xj_E.loc [0] xhth rfl (show xj_E (xX L xs) (D1 + 1) 88 11 [(0, .ref 32)] [] (SH, S6, T) P from ?_)
                exact (ih.1) _ _ _ (by omega) hd h
          · have hd := hd.2 q
            have h := fun v S9 e => h v S9 (Eq.trans e (if_neg q).symm)
            refine xj_E.adv 2 (pc' := 63) (ls' := [(5, .int (u5 + 1)), (0, .ref 32), (3, .int u3), (4, .int u4)]) (st' := []) (w' := (SH, S, T)) rfl ?_
            refine xj_E.loc [0, 3, 4, 5] xhth rfl (show xj_E (xX L xs) (D1 + 1) 88 63 [(0, .ref 32), (3, .int u3), (4, .int u4), (5, .int (u5 + 1))] [] (SH, S, T) P from ?_)
            exact (ih.2) _ _ _ _ _ _ (by omega) hd h
