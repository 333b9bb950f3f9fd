/-! a method that stores: our machine does so -/
set_option maxHeartbeats 4000000 in
set_option maxRecDepth 100000 in
theorem okk_m_workOff {L : Nat} {xs : Nat → Int32} {T : Nat → Nat → Int64} (n : Nat) : (∀ (u1 : Int32) S D (P : (Option Value ⊕ Nat) → xj_W → Nat → Nat → Prop), 7 ≤ D → dk_m_workOff n u1 S → (∀ v S9, (v, S9) = fk_m_workOff n u1 S → P (.inl none) (SH, S9, T) 0 0) → xj_E (xX L xs) D 97 2 [(0, .ref 32), (1, .int u1)] [] (SH, S, T) P) := by
  induction n with
  | zero => exact fun _ _ _ _ _ hd _ => hd.elim
  | succ n ih =>
    refine ?_
    · intro u1 S D P hD hd h
      have h : ∀ v S9, (v, S9) = ((if u1 = 0 then ((0, S)) else (if (S 32 38) ≠ 0 then ((0, S)) else (if (r_m_toExit S) < 0 then (if (r_m_toLetIn S) < 0 then (if (r_m_toComplete S) < 0 then (fk_m_workOff n 0 S) else (match f_m_make (r_m_toComplete S) 4 S with | (_, S1) => fk_m_workOff n 1 S1)) else (match f_m_letIn (r_m_toLetIn S) S with | (_, S2) => fk_m_workOff n u1 S2)) else (match f_m_make (r_m_toExit S) 9 S with | (_, S3) => fk_m_workOff n u1 S3)))) : Int32 × (Nat → Nat → Int32)) → P (.inl none) (SH, S9, T) 0 0 := h
      obtain ⟨D1, rfl⟩ : ∃ D1, D = D1 + 1 := ⟨D - 1, by omega⟩
      refine xj_E.adv 2 (pc' := (if xj_cmp .eq u1 0 = true then 77 else 6)) (ls' := [(0, .ref 32), (1, .int u1)]) (st' := []) (w' := (SH, S, T)) rfl ?_
      refine xj_E.b_eq (fun q => ?_) (fun q => ?_)
      · have hd := hd.1 q
        have h := fun v S9 e => h v S9 (Eq.trans e (if_pos q).symm)
        exact xj_E.ret rfl rfl rfl rfl (h _ _ rfl)
      · have hd := hd.2 q
        have h := fun v S9 e => h v S9 (Eq.trans e (if_neg q).symm)
        refine xj_E.adv 3 (pc' := (if xj_cmp .ne (S 32 38) 0 = true then 77 else 13)) (ls' := [(0, .ref 32), (1, .int u1)]) (st' := []) (w' := (SH, S, T)) rfl ?_
        refine xj_E.b_ne (fun q => ?_) (fun q => ?_)
        · have hd := hd.1 q
          have h := fun v S9 e => h v S9 (Eq.trans e (if_pos q).symm)
          exact xj_E.ret rfl rfl rfl rfl (h _ _ rfl)
        · have hd := hd.2 q
          have h := fun v S9 e => h v S9 (Eq.trans e (if_neg q).symm)
          refine xj_E.adv 1 (pc' := 14) (ls' := [(0, .ref 32), (1, .int u1)]) (st' := [.ref 32]) (w' := (SH, S, T)) rfl ?_
          refine xj_E.calli (d := D1) (S := SH) rfl rfl rfl rfl rfl (xj_E.deep (ok_m_toExit (d := 0) hd.1 ?_) (by omega))
          intro w1 f1
          refine ⟨_, _, _, rfl, rfl, rfl, rfl, ?_⟩
          have hd := hd.2
          rw [← f1] at hd
          have h : ∀ v S9, (v, S9) = ((if (r_m_toExit S) < 0 then (if (r_m_toLetIn S) < 0 then (if (r_m_toComplete S) < 0 then (fk_m_workOff n 0 S) else (match f_m_make (r_m_toComplete S) 4 S with | (_, S1) => fk_m_workOff n 1 S1)) else (match f_m_letIn (r_m_toLetIn S) S with | (_, S2) => fk_m_workOff n u1 S2)) else (match f_m_make (r_m_toExit S) 9 S with | (_, S3) => fk_m_workOff n u1 S3)) : Int32 × (Nat → Nat → Int32)) → P (.inl none) (SH, S9, T) 0 0 := h
          rw [← f1] at h
          refine xj_E.adv 3 (pc' := (if xj_cmp .lt w1 0 = true then 32 else 22)) (ls' := [(2, .int w1), (0, .ref 32), (1, .int u1)]) (st' := []) (w' := (SH, S, T)) rfl ?_
          refine xj_E.b_lt (fun q => ?_) (fun q => ?_)
          · have hd := hd.1 q
            have h := fun v S9 e => h v S9 (Eq.trans e (if_pos q).symm)
            refine xj_E.adv 1 (pc' := 33) (ls' := [(2, .int w1), (0, .ref 32), (1, .int u1)]) (st' := [.ref 32]) (w' := (SH, S, T)) rfl ?_
            refine xj_E.calli (d := D1) (S := SH) rfl rfl rfl rfl rfl (xj_E.deep (ok_m_toLetIn (d := 0) hd.1 ?_) (by omega))
            intro w2 f2
            refine ⟨_, _, _, rfl, rfl, rfl, rfl, ?_⟩
            have hd := hd.2
            rw [← f2] at hd
            have h : ∀ v S9, (v, S9) = ((if (r_m_toLetIn S) < 0 then (if (r_m_toComplete S) < 0 then (fk_m_workOff n 0 S) else (match f_m_make (r_m_toComplete S) 4 S with | (_, S1) => fk_m_workOff n 1 S1)) else (match f_m_letIn (r_m_toLetIn S) S with | (_, S2) => fk_m_workOff n u1 S2)) : Int32 × (Nat → Nat → Int32)) → P (.inl none) (SH, S9, T) 0 0 := h
            rw [← f2] at h
            refine xj_E.adv 3 (pc' := (if xj_cmp .lt w2 0 = true then 49 else 41)) (ls' := [(2, .int w2), (0, .ref 32), (1, .int u1)]) (st' := []) (w' := (SH, S, T)) rfl ?_
            refine xj_E.b_lt (fun q => ?_) (fun q => ?_)
            · have hd := hd.1 q
              have h := fun v S9 e => h v S9 (Eq.trans e (if_pos q).symm)
              refine xj_E.adv 1 (pc' := 50) (ls' := [(2, .int w2), (0, .ref 32), (1, .int u1)]) (st' := [.ref 32]) (w' := (SH, S, T)) rfl ?_
              refine xj_E.calli (d := D1) (S := SH) rfl rfl rfl rfl rfl (xj_E.deep (ok_m_toComplete (d := 0) hd.1 ?_) (by omega))
              intro w3 f3
              refine ⟨_, _, _, rfl, rfl, rfl, rfl, ?_⟩
              have hd := hd.2
              rw [← f3] at hd
              have h : ∀ v S9, (v, S9) = ((if (r_m_toComplete S) < 0 then (fk_m_workOff n 0 S) else (match f_m_make (r_m_toComplete S) 4 S with | (_, S1) => fk_m_workOff n 1 S1)) : Int32 × (Nat → Nat → Int32)) → P (.inl none) (SH, S9, T) 0 0 := h
              rw [← f3] at h
              refine xj_E.adv 3 (pc' := (if xj_cmp .lt w3 0 = true then 62 else 58)) (ls' := [(2, .int w3), (0, .ref 32), (1, .int u1)]) (st' := []) (w' := (SH, S, T)) rfl ?_
              refine xj_E.b_lt (fun q => ?_) (fun q => ?_)
              · have hd := hd.1 q
                have h := fun v S9 e => h v S9 (Eq.trans e (if_pos q).symm)
                refine xj_E.adv 5 (pc' := 2) (ls' := [(1, .int 0), (2, .int w3), (0, .ref 32)]) (st' := []) (w' := (SH, S, T)) rfl ?_
                refine xj_E.loc [0, 1] xhth rfl (show xj_E (xX L xs) (D1 + 1) 97 2 [(0, .ref 32), (1, .int 0)] [] (SH, S, T) P from ?_)
                exact (ih) _ _ _ _ (by omega) hd h
              · have hd := hd.2 q
                have h := fun v S9 e => h v S9 (Eq.trans e (if_neg q).symm)
                refine xj_E.adv 8 (pc' := 71) (ls' := [(1, .int 1), (2, .int w3), (0, .ref 32)]) (st' := [.int 4, .int w3, .ref 32]) (w' := (SH, S, T)) rfl ?_
                refine xj_E.callv (d := D1) (S := SH) rfl rfl rfl rfl rfl (ok_m_make (by omega) hd.1 ?_)
                intro v1 S1 e1
                refine ⟨_, _, rfl, rfl, rfl, rfl, ?_⟩
                have hd := hd.2
                generalize f_m_make w3 4 S = Xe1 at e1 hd h
                subst e1
                refine xj_E.adv 1 (pc' := 2) (ls' := [(1, .int 1), (2, .int w3), (0, .ref 32)]) (st' := []) (w' := (SH, S1, T)) rfl ?_
                refine xj_E.loc [0, 1] xhth rfl (show xj_E (xX L xs) (D1 + 1) 97 2 [(0, .ref 32), (1, .int 1)] [] (SH, S1, T) P from ?_)
                exact (ih) _ _ _ _ (by omega) hd h
            · have hd := hd.2 q
              have h := fun v S9 e => h v S9 (Eq.trans e (if_neg q).symm)
              refine xj_E.adv 2 (pc' := 43) (ls' := [(2, .int w2), (0, .ref 32), (1, .int u1)]) (st' := [.int w2, .ref 32]) (w' := (SH, S, T)) rfl ?_
              refine xj_E.callv (d := D1) (S := SH) rfl rfl rfl rfl rfl (ok_m_letIn (by omega) hd.1 ?_)
              intro v2 S2 e2
              refine ⟨_, _, rfl, rfl, rfl, rfl, ?_⟩
              have hd := hd.2
              generalize f_m_letIn w2 S = Xe2 at e2 hd h
              subst e2
              refine xj_E.adv 1 (pc' := 2) (ls' := [(2, .int w2), (0, .ref 32), (1, .int u1)]) (st' := []) (w' := (SH, S2, T)) rfl ?_
              refine xj_E.loc [0, 1] xhth rfl (show xj_E (xX L xs) (D1 + 1) 97 2 [(0, .ref 32), (1, .int u1)] [] (SH, S2, T) P from ?_)
              exact (ih) _ _ _ _ (by omega) hd h
          · have hd := hd.2 q
            have h := fun v S9 e => h v S9 (Eq.trans e (if_neg q).symm)
            refine xj_E.adv 3 (pc' := 26) (ls' := [(2, .int w1), (0, .ref 32), (1, .int u1)]) (st' := [.int 9, .int w1, .ref 32]) (w' := (SH, S, T)) rfl ?_
            refine xj_E.callv (d := D1) (S := SH) rfl rfl rfl rfl rfl (ok_m_make (by omega) hd.1 ?_)
            intro v3 S3 e3
            refine ⟨_, _, rfl, rfl, rfl, rfl, ?_⟩
            have hd := hd.2
            generalize f_m_make w1 9 S = Xe3 at e3 hd h
            subst e3
            refine xj_E.adv 1 (pc' := 2) (ls' := [(2, .int w1), (0, .ref 32), (1, .int u1)]) (st' := []) (w' := (SH, S3, T)) rfl ?_
            refine xj_E.loc [0, 1] xhth rfl (show xj_E (xX L xs) (D1 + 1) 97 2 [(0, .ref 32), (1, .int u1)] [] (SH, S3, T) P from ?_)
            exact (ih) _ _ _ _ (by omega) hd h
