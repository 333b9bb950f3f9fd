/-! a method that stores: our machine does so -/
set_option maxHeartbeats 4000000 in
set_option maxRecDepth 100000 in
theorem okk_m_enter {L : Nat} {xs : Nat → Int32} {T : Nat → Nat → Int64} (n : Nat) : (∀ (u1 : Int32) (u2 : Int32) (u3 : Int32) (u4 : Int32) S D (P : (Option Value ⊕ Nat) → xj_W → Nat → Nat → Prop), 4 ≤ D → dk_m_enter n u1 u2 u3 u4 S → (∀ v S9, (v, S9) = fk_m_enter n u1 u2 u3 u4 S → P (.inl none) (SH, S9, T) 0 0) → xj_E (xX L xs) D 85 52 [(0, .ref 32), (1, .int u1), (2, .int u2), (3, .int u3), (4, .int u4)] [] (SH, S, T) P) := by
  induction n with
  | zero => exact fun _ _ _ _ _ _ _ _ hd _ => hd.elim
  | succ n ih =>
    refine ?_
    · intro u1 u2 u3 u4 S D P hD hd h
      have h : ∀ v S9, (v, S9) = ((if (S 32 1) ≤ u4 then (if u3 = 0 then (match f_m_again u1 u2 S with | (_, S1) => (0, S1)) else (if u2 = 4 then ((0, (xj_set (xj_set (xj_set (xj_set S 61 (S 32 39).toNatClampNeg u1) 62 (S 32 39).toNatClampNeg u2) 63 (S 32 39).toNatClampNeg 0) 32 39 ((S 32 39) + 1)))) else (if u2 = 9 then ((0, (xj_set (xj_set (xj_set (xj_set S 61 (S 32 39).toNatClampNeg u1) 62 (S 32 39).toNatClampNeg u2) 63 (S 32 39).toNatClampNeg 0) 32 39 ((S 32 39) + 1)))) else (if u2 = 5 then ((0, (xj_set (xj_set (xj_set (xj_set S 61 (S 32 39).toNatClampNeg u1) 62 (S 32 39).toNatClampNeg u2) 63 (S 32 39).toNatClampNeg 0) 32 39 ((S 32 39) + 1)))) else (if u2 ≠ 6 then (match f_m_again u1 u2 S with | (_, S2) => (0, S2)) else ((0, (xj_set (xj_set (xj_set (xj_set S 61 (S 32 39).toNatClampNeg u1) 62 (S 32 39).toNatClampNeg u2) 63 (S 32 39).toNatClampNeg 0) 32 39 ((S 32 39) + 1))))))))) else (if (S 34 u4.toNatClampNeg) ≠ (S 45 u1.toNatClampNeg) then (fk_m_enter n u1 u2 u3 (u4 + 1) S) else (match f_m_create u4 u1 S with | (_, S3) => fk_m_enter n u1 u2 u3 (u4 + 1) S3))) : Int32 × (Nat → Nat → Int32)) → P (.inl none) (SH, S9, T) 0 0 := h
      obtain ⟨D1, rfl⟩ : ∃ D1, D = D1 + 1 := ⟨D - 1, by omega⟩
      refine xj_E.adv 4 (pc' := (if xj_cmp .ge u4 (S 32 1) = true then 90 else 61)) (ls' := [(0, .ref 32), (1, .int u1), (2, .int u2), (3, .int u3), (4, .int u4)]) (st' := []) (w' := (SH, S, T)) rfl ?_
      refine xj_E.b_ge (fun q => ?_) (fun q => ?_)
      · have hd := hd.1 q
        have h := fun v S9 e => h v S9 (Eq.trans e (if_pos q).symm)
        refine xj_E.adv 2 (pc' := (if xj_cmp .eq u3 0 = true then 159 else 94)) (ls' := [(0, .ref 32), (1, .int u1), (2, .int u2), (3, .int u3), (4, .int u4)]) (st' := []) (w' := (SH, S, T)) rfl ?_
        refine xj_E.b_eq (fun q => ?_) (fun q => ?_)
        · have hd := hd.1 q
          have h := fun v S9 e => h v S9 (Eq.trans e (if_pos q).symm)
          refine xj_E.adv 3 (pc' := 162) (ls' := [(0, .ref 32), (1, .int u1), (2, .int u2), (3, .int u3), (4, .int u4)]) (st' := [.int u2, .int u1, .ref 32]) (w' := (SH, S, T)) rfl ?_
          refine xj_E.callv (d := D1) (S := SH) rfl rfl rfl rfl rfl (ok_m_again (by omega) hd.1 ?_)
          intro v1 S1 e1
          refine ⟨_, _, rfl, rfl, rfl, rfl, ?_⟩
          have hd := hd.2
          generalize f_m_again u1 u2 S = Xe1 at e1 hd h
          subst e1
          exact xj_E.ret rfl rfl rfl rfl (h _ _ rfl)
        · have hd := hd.2 q
          have h := fun v S9 e => h v S9 (Eq.trans e (if_neg q).symm)
          refine xj_E.adv 3 (pc' := (if xj_cmp .eq u2 4 = true then 116 else 99)) (ls' := [(0, .ref 32), (1, .int u1), (2, .int u2), (3, .int u3), (4, .int u4)]) (st' := []) (w' := (SH, S, T)) rfl ?_
          refine xj_E.b_eq (fun q => ?_) (fun q => ?_)
          · have hd := hd.1 q
            have h := fun v S9 e => h v S9 (Eq.trans e (if_pos q).symm)
            refine xj_E.adv 5 (pc' := 125) (ls' := [(0, .ref 32), (1, .int u1), (2, .int u2), (3, .int u3), (4, .int u4)]) (st' := [.int u1, .int (S 32 39), .ref 61]) (w' := (SH, S, T)) rfl ?_
            refine xj_E.iast rfl rfl hd.1 ?_
            have hd := hd.2
            refine xj_E.adv 5 (pc' := 135) (ls' := [(0, .ref 32), (1, .int u1), (2, .int u2), (3, .int u3), (4, .int u4)]) (st' := [.int u2, .int (S 32 39), .ref 62]) (w' := (SH, (xj_set S 61 (S 32 39).toNatClampNeg u1), T)) rfl ?_
            refine xj_E.iast rfl rfl hd.1 ?_
            have hd := hd.2
            refine xj_E.adv 5 (pc' := 145) (ls' := [(0, .ref 32), (1, .int u1), (2, .int u2), (3, .int u3), (4, .int u4)]) (st' := [.int 0, .int (S 32 39), .ref 63]) (w' := (SH, (xj_set (xj_set S 61 (S 32 39).toNatClampNeg u1) 62 (S 32 39).toNatClampNeg u2), T)) rfl ?_
            refine xj_E.iast rfl rfl hd.1 ?_
            have hd := hd.2
            refine xj_E.adv 7 (pc' := 165) (ls' := [(0, .ref 32), (1, .int u1), (2, .int u2), (3, .int u3), (4, .int u4)]) (st' := []) (w' := (SH, (xj_set (xj_set (xj_set (xj_set S 61 (S 32 39).toNatClampNeg u1) 62 (S 32 39).toNatClampNeg u2) 63 (S 32 39).toNatClampNeg 0) 32 39 ((S 32 39) + 1)), T)) rfl ?_
            exact xj_E.ret rfl rfl rfl rfl (h _ _ rfl)
          · have hd := hd.2 q
            have h := fun v S9 e => h v S9 (Eq.trans e (if_neg q).symm)
            refine xj_E.adv 3 (pc' := (if xj_cmp .eq u2 9 = true then 116 else 105)) (ls' := [(0, .ref 32), (1, .int u1), (2, .int u2), (3, .int u3), (4, .int u4)]) (st' := []) (w' := (SH, S, T)) rfl ?_
            refine xj_E.b_eq (fun q => ?_) (fun q => ?_)
            · have hd := hd.1 q
              have h := fun v S9 e => h v S9 (Eq.trans e (if_pos q).symm)
              refine xj_E.adv 5 (pc' := 125) (ls' := [(0, .ref 32), (1, .int u1), (2, .int u2), (3, .int u3), (4, .int u4)]) (st' := [.int u1, .int (S 32 39), .ref 61]) (w' := (SH, S, T)) rfl ?_
              refine xj_E.iast rfl rfl hd.1 ?_
              have hd := hd.2
              refine xj_E.adv 5 (pc' := 135) (ls' := [(0, .ref 32), (1, .int u1), (2, .int u2), (3, .int u3), (4, .int u4)]) (st' := [.int u2, .int (S 32 39), .ref 62]) (w' := (SH, (xj_set S 61 (S 32 39).toNatClampNeg u1), T)) rfl ?_
              refine xj_E.iast rfl rfl hd.1 ?_
              have hd := hd.2
              refine xj_E.adv 5 (pc' := 145) (ls' := [(0, .ref 32), (1, .int u1), (2, .int u2), (3, .int u3), (4, .int u4)]) (st' := [.int 0, .int (S 32 39), .ref 63]) (w' := (SH, (xj_set (xj_set S 61 (S 32 39).toNatClampNeg u1) 62 (S 32 39).toNatClampNeg u2), T)) rfl ?_
              refine xj_E.iast rfl rfl hd.1 ?_
              have hd := hd.2
              refine xj_E.adv 7 (pc' := 165) (ls' := [(0, .ref 32), (1, .int u1), (2, .int u2), (3, .int u3), (4, .int u4)]) (st' := []) (w' := (SH, (xj_set (xj_set (xj_set (xj_set S 61 (S 32 39).toNatClampNeg u1) 62 (S 32 39).toNatClampNeg u2) 63 (S 32 39).toNatClampNeg 0) 32 39 ((S 32 39) + 1)), T)) rfl ?_
              exact xj_E.ret rfl rfl rfl rfl (h _ _ rfl)
            · have hd := hd.2 q
              have h := fun v S9 e => h v S9 (Eq.trans e (if_neg q).symm)
              refine xj_E.adv 3 (pc' := (if xj_cmp .eq u2 5 = true then 116 else 110)) (ls' := [(0, .ref 32), (1, .int u1), (2, .int u2), (3, .int u3), (4, .int u4)]) (st' := []) (w' := (SH, S, T)) rfl ?_
              refine xj_E.b_eq (fun q => ?_) (fun q => ?_)
              · have hd := hd.1 q
                have h := fun v S9 e => h v S9 (Eq.trans e (if_pos q).symm)
                refine xj_E.adv 5 (pc' := 125) (ls' := [(0, .ref 32), (1, .int u1), (2, .int u2), (3, .int u3), (4, .int u4)]) (st' := [.int u1, .int (S 32 39), .ref 61]) (w' := (SH, S, T)) rfl ?_
                refine xj_E.iast rfl rfl hd.1 ?_
                have hd := hd.2
                refine xj_E.adv 5 (pc' := 135) (ls' := [(0, .ref 32), (1, .int u1), (2, .int u2), (3, .int u3), (4, .int u4)]) (st' := [.int u2, .int (S 32 39), .ref 62]) (w' := (SH, (xj_set S 61 (S 32 39).toNatClampNeg u1), T)) rfl ?_
                refine xj_E.iast rfl rfl hd.1 ?_
                have hd := hd.2
                refine xj_E.adv 5 (pc' := 145) (ls' := [(0, .ref 32), (1, .int u1), (2, .int u2), (3, .int u3), (4, .int u4)]) (st' := [.int 0, .int (S 32 39), .ref 63]) (w' := (SH, (xj_set (xj_set S 61 (S 32 39).toNatClampNeg u1) 62 (S 32 39).toNatClampNeg u2), T)) rfl ?_
                refine xj_E.iast rfl rfl hd.1 ?_
                have hd := hd.2
                refine xj_E.adv 7 (pc' := 165) (ls' := [(0, .ref 32), (1, .int u1), (2, .int u2), (3, .int u3), (4, .int u4)]) (st' := []) (w' := (SH, (xj_set (xj_set (xj_set (xj_set S 61 (S 32 39).toNatClampNeg u1) 62 (S 32 39).toNatClampNeg u2) 63 (S 32 39).toNatClampNeg 0) 32 39 ((S 32 39) + 1)), T)) rfl ?_
                exact xj_E.ret rfl rfl rfl rfl (h _ _ rfl)
              · have hd := hd.2 q
                have h := fun v S9 e => h v S9 (Eq.trans e (if_neg q).symm)
                refine xj_E.adv 3 (pc' := (if xj_cmp .ne u2 6 = true then 159 else 116)) (ls' := [(0, .ref 32), (1, .int u1), (2, .int u2), (3, .int u3), (4, .int u4)]) (st' := []) (w' := (SH, S, T)) rfl ?_
                refine xj_E.b_ne (fun q => ?_) (fun q => ?_)
                · have hd := hd.1 q
                  have h := fun v S9 e => h v S9 (Eq.trans e (if_pos q).symm)
                  refine xj_E.adv 3 (pc' := 162) (ls' := [(0, .ref 32), (1, .int u1), (2, .int u2), (3, .int u3), (4, .int u4)]) (st' := [.int u2, .int u1, .ref 32]) (w' := (SH, S, T)) rfl ?_
                  refine xj_E.callv (d := D1) (S := SH) rfl rfl rfl rfl rfl (ok_m_again (by omega) hd.1 ?_)
                  intro v2 S2 e2
                  refine ⟨_, _, rfl, rfl, rfl, rfl, ?_⟩
                  have hd := hd.2
                  generalize f_m_again u1 u2 S = Xe2 at e2 hd h
                  subst e2
                  exact xj_E.ret rfl rfl rfl rfl (h _ _ rfl)
                · have hd := hd.2 q
                  have h := fun v S9 e => h v S9 (Eq.trans e (if_neg q).symm)
                  refine xj_E.adv 5 (pc' := 125) (ls' := [(0, .ref 32), (1, .int u1), (2, .int u2), (3, .int u3), (4, .int u4)]) (st' := [.int u1, .int (S 32 39), .ref 61]) (w' := (SH, S, T)) rfl ?_
                  refine xj_E.iast rfl rfl hd.1 ?_
                  have hd := hd.2
                  refine xj_E.adv 5 (pc' := 135) (ls' := [(0, .ref 32), (1, .int u1), (2, .int u2), (3, .int u3), (4, .int u4)]) (st' := [.int u2, .int (S 32 39), .ref 62]) (w' := (SH, (xj_set S 61 (S 32 39).toNatClampNeg u1), T)) rfl ?_
                  refine xj_E.iast rfl rfl hd.1 ?_
                  have hd := hd.2
                  refine xj_E.adv 5 (pc' := 145) (ls' := [(0, .ref 32), (1, .int u1), (2, .int u2), (3, .int u3), (4, .int u4)]) (st' := [.int 0, .int (S 32 39), .ref 63]) (w' := (SH, (xj_set (xj_set S 61 (S 32 39).toNatClampNeg u1) 62 (S 32 39).toNatClampNeg u2), T)) rfl ?_
                  refine xj_E.iast rfl rfl hd.1 ?_
                  have hd := hd.2
                  refine xj_E.adv 7 (pc' := 165) (ls' := [(0, .ref 32), (1, .int u1), (2, .int u2), (3, .int u3), (4, .int u4)]) (st' := []) (w' := (SH, (xj_set (xj_set (xj_set (xj_set S 61 (S 32 39).toNatClampNeg u1) 62 (S 32 39).toNatClampNeg u2) 63 (S 32 39).toNatClampNeg 0) 32 39 ((S 32 39) + 1)), T)) rfl ?_
                  exact xj_E.ret rfl rfl rfl rfl (h _ _ rfl)
      · have hd := hd.2 q
        have h := fun v S9 e => h v S9 (Eq.trans e (if_neg q).symm)
        refine xj_E.adv 3 (pc' := 67) (ls' := [(0, .ref 32), (1, .int u1), (2, .int u2), (3, .int u3), (4, .int u4)]) (st' := [.int u4, .ref 34]) (w' := (SH, S, T)) rfl ?_
        refine xj_E.iald rfl rfl hd.1 ?_
        have hd := hd.2
        refine xj_E.adv 3 (pc' := 73) (ls' := [(0, .ref 32), (1, .int u1), (2, .int u2), (3, .int u3), (4, .int u4)]) (st' := [.int u1, .ref 45, .int (S 34 u4.toNatClampNeg)]) (w' := (SH, S, T)) rfl ?_
        refine xj_E.iald rfl rfl hd.1 ?_
        have hd := hd.2
        refine xj_E.adv 1 (pc' := (if xj_cmp .ne (S 34 u4.toNatClampNeg) (S 45 u1.toNatClampNeg) = true then 84 else 77)) (ls' := [(0, .ref 32), (1, .int u1), (2, .int u2), (3, .int u3), (4, .int u4)]) (st' := []) (w' := (SH, S, T)) rfl ?_
        refine xj_E.b_ne (fun q => ?_) (fun q => ?_)
        · have hd := hd.1 q
          have h := fun v S9 e => h v S9 (Eq.trans e (if_pos q).symm)
          refine xj_E.adv 2 (pc' := 52) (ls' := [(4, .int (u4 + 1)), (0, .ref 32), (1, .int u1), (2, .int u2), (3, .int u3)]) (st' := []) (w' := (SH, S, T)) rfl ?_
          refine xj_E.loc [0, 1, 2, 3, 4] xhth rfl (show xj_E (xX L xs) (D1 + 1) 85 52 [(0, .ref 32), (1, .int u1), (2, .int u2), (3, .int u3), (4, .int (u4 + 1))] [] (SH, S, T) P from ?_)
          exact (ih) _ _ _ _ _ _ _ (by omega) hd h
        · have hd := hd.2 q
          have h := fun v S9 e => h v S9 (Eq.trans e (if_neg q).symm)
          refine xj_E.adv 3 (pc' := 81) (ls' := [(0, .ref 32), (1, .int u1), (2, .int u2), (3, .int u3), (4, .int u4)]) (st' := [.int u1, .int u4, .ref 32]) (w' := (SH, S, T)) rfl ?_
          refine xj_E.callv (d := D1) (S := SH) rfl rfl rfl rfl rfl (ok_m_create (by omega) hd.1 ?_)
          intro v3 S3 e3
          refine ⟨_, _, rfl, rfl, rfl, rfl, ?_⟩
          have hd := hd.2
          generalize f_m_create u4 u1 S = Xe3 at e3 hd h
          subst e3
          refine xj_E.adv 2 (pc' := 52) (ls' := [(4, .int (u4 + 1)), (0, .ref 32), (1, .int u1), (2, .int u2), (3, .int u3)]) (st' := []) (w' := (SH, S3, T)) rfl ?_
          refine xj_E.loc [0, 1, 2, 3, 4] xhth rfl (show xj_E (xX L xs) (D1 + 1) 85 52 [(0, .ref 32), (1, .int u1), (2, .int u2), (3, .int u3), (4, .int (u4 + 1))] [] (SH, S3, T) P from ?_)
          exact (ih) _ _ _ _ _ _ _ (by omega) hd h
