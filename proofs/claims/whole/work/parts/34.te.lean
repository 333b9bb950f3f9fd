/-! a method that may throw: our machine does so -/
set_option maxHeartbeats 4000000 in
set_option maxRecDepth 100000 in
theorem okk_c_workOff {L : Nat} {xs : Nat → Int32} {T : Nat → Nat → Int64} (n : Nat) : (∀ (u1 : Int32) S D (P : (Option Value ⊕ Nat) → xj_W → Nat → Nat → Prop), 605 ≤ D → dk_c_workOff n u1 S → (∀ v S9, (0, v, S9) = fk_c_workOff n u1 S → P (.inl (some (.int v))) (SH, S9, T) 0 0) → (∀ q v S9, (q + 1, v, S9) = fk_c_workOff n u1 S → P (.inr q) (SH, S9, T) 1 6) → xj_E (xX L xs) D 48 2 [(0, .ref 0), (1, .int u1)] [] (SH, S, T) P) := by
  induction n with
  | zero => exact fun _ _ _ _ _ hd _ _ => hd.elim
  | succ n ih =>
    refine ?_
    · intro u1 S D P hD hd h ht
      have h : ∀ v S9, (0, v, S9) = ((if 60 < u1 then (match f_l_copyFrom14 S with | (_, S1) => (3, 0, S1)) else (if (S 0 4) ≠ 0 then (match f_l_copyFrom14 S with | (_, S2) => (3, 0, S2)) else (if (r_c_lowestToExit S) = (-1) then (if (r_c_lowestToEnter S) = (-1) then (if (r_c_lowestToComplete S) ≠ (-1) then (match f_c_make (r_c_lowestToComplete S) 4 0 S with | (_, S3) => fk_c_workOff n (u1 + 1) S3) else ((0, S 0 3, S))) else (match f_c_letIn (r_c_lowestToEnter S) S with | (_, S4) => fk_c_workOff n (u1 + 1) S4)) else (match f_c_make (r_c_lowestToExit S) 9 0 S with | (_, S5) => fk_c_workOff n (u1 + 1) S5)))) : Nat × Int32 × (Nat → Nat → Int32)) → P (.inl (some (.int v))) (SH, S9, T) 0 0 := h
      have ht : ∀ q v S9, (q + 1, v, S9) = ((if 60 < u1 then (match f_l_copyFrom14 S with | (_, S1) => (3, 0, S1)) else (if (S 0 4) ≠ 0 then (match f_l_copyFrom14 S with | (_, S2) => (3, 0, S2)) else (if (r_c_lowestToExit S) = (-1) then (if (r_c_lowestToEnter S) = (-1) then (if (r_c_lowestToComplete S) ≠ (-1) then (match f_c_make (r_c_lowestToComplete S) 4 0 S with | (_, S3) => fk_c_workOff n (u1 + 1) S3) else ((0, S 0 3, S))) else (match f_c_letIn (r_c_lowestToEnter S) S with | (_, S4) => fk_c_workOff n (u1 + 1) S4)) else (match f_c_make (r_c_lowestToExit S) 9 0 S with | (_, S5) => fk_c_workOff n (u1 + 1) S5)))) : Nat × Int32 × (Nat → Nat → Int32)) → P (.inr q) (SH, S9, T) 1 6 := ht
      obtain ⟨D1, rfl⟩ : ∃ D1, D = D1 + 1 := ⟨D - 1, by omega⟩
      refine xj_E.adv 3 (pc' := (if xj_cmp .gt u1 60 = true then 85 else 8)) (ls' := [(0, .ref 0), (1, .int u1)]) (st' := []) (w' := (SH, S, T)) rfl ?_
      refine xj_E.b_gt (fun q => ?_) (fun q => ?_)
      · have hd := hd.1 q
        have h := fun v S9 e => h v S9 (Eq.trans e (if_pos q).symm); have ht := fun q_ v S9 e => ht q_ v S9 (Eq.trans e (if_pos q).symm)
        refine xj_E.adv 4 (pc' := 93) (ls' := [(0, .ref 0), (1, .int u1)]) (st' := [.ref 23, .ref 14]) (w' := (SH, S, T)) rfl ?_
        refine xj_E.callv (d := D1) (S := SH) rfl rfl rfl rfl rfl (ok_l_copyFrom14 (by omega) hd.1 ?_)
        intro v1 S1 e1
        refine ⟨_, _, rfl, rfl, rfl, rfl, ?_⟩
        have hd := hd.2
        generalize f_l_copyFrom14 S = Xe1 at e1 hd h ht
        subst e1
        exact xj_E.thr rfl rfl rfl rfl rfl (ht 2 _ _ rfl)
      · have hd := hd.2 q
        have h := fun v S9 e => h v S9 (Eq.trans e (if_neg q).symm); have ht := fun q_ v S9 e => ht q_ v S9 (Eq.trans e (if_neg q).symm)
        refine xj_E.adv 3 (pc' := (if xj_cmp .ne (S 0 4) 0 = true then 85 else 15)) (ls' := [(0, .ref 0), (1, .int u1)]) (st' := []) (w' := (SH, S, T)) rfl ?_
        refine xj_E.b_ne (fun q => ?_) (fun q => ?_)
        · have hd := hd.1 q
          have h := fun v S9 e => h v S9 (Eq.trans e (if_pos q).symm); have ht := fun q_ v S9 e => ht q_ v S9 (Eq.trans e (if_pos q).symm)
          refine xj_E.adv 4 (pc' := 93) (ls' := [(0, .ref 0), (1, .int u1)]) (st' := [.ref 23, .ref 14]) (w' := (SH, S, T)) rfl ?_
          refine xj_E.callv (d := D1) (S := SH) rfl rfl rfl rfl rfl (ok_l_copyFrom14 (by omega) hd.1 ?_)
          intro v2 S2 e2
          refine ⟨_, _, rfl, rfl, rfl, rfl, ?_⟩
          have hd := hd.2
          generalize f_l_copyFrom14 S = Xe2 at e2 hd h ht
          subst e2
          exact xj_E.thr rfl rfl rfl rfl rfl (ht 2 _ _ rfl)
        · have hd := hd.2 q
          have h := fun v S9 e => h v S9 (Eq.trans e (if_neg q).symm); have ht := fun q_ v S9 e => ht q_ v S9 (Eq.trans e (if_neg q).symm)
          refine xj_E.adv 1 (pc' := 16) (ls' := [(0, .ref 0), (1, .int u1)]) (st' := [.ref 0]) (w' := (SH, S, T)) rfl ?_
          refine xj_E.calli (d := D1) (S := SH) rfl rfl rfl rfl rfl (xj_E.deep (ok_c_lowestToExit (d := 0) hd.1 ?_) (by omega))
          intro w1 f1
          refine ⟨_, _, _, rfl, rfl, rfl, rfl, ?_⟩
          have hd := hd.2
          rw [← f1] at hd
          have h : ∀ v S9, (0, v, S9) = ((if (r_c_lowestToExit S) = (-1) then (if (r_c_lowestToEnter S) = (-1) then (if (r_c_lowestToComplete S) ≠ (-1) then (match f_c_make (r_c_lowestToComplete S) 4 0 S with | (_, S3) => fk_c_workOff n (u1 + 1) S3) else ((0, S 0 3, S))) else (match f_c_letIn (r_c_lowestToEnter S) S with | (_, S4) => fk_c_workOff n (u1 + 1) S4)) else (match f_c_make (r_c_lowestToExit S) 9 0 S with | (_, S5) => fk_c_workOff n (u1 + 1) S5)) : Nat × Int32 × (Nat → Nat → Int32)) → P (.inl (some (.int v))) (SH, S9, T) 0 0 := h
          rw [← f1] at h
          have ht : ∀ q v S9, (q + 1, v, S9) = ((if (r_c_lowestToExit S) = (-1) then (if (r_c_lowestToEnter S) = (-1) then (if (r_c_lowestToComplete S) ≠ (-1) then (match f_c_make (r_c_lowestToComplete S) 4 0 S with | (_, S3) => fk_c_workOff n (u1 + 1) S3) else ((0, S 0 3, S))) else (match f_c_letIn (r_c_lowestToEnter S) S with | (_, S4) => fk_c_workOff n (u1 + 1) S4)) else (match f_c_make (r_c_lowestToExit S) 9 0 S with | (_, S5) => fk_c_workOff n (u1 + 1) S5)) : Nat × Int32 × (Nat → Nat → Int32)) → P (.inr q) (SH, S9, T) 1 6 := ht
          rw [← f1] at ht
          refine xj_E.adv 4 (pc' := (if xj_cmp .eq w1 (-1) = true then 36 else 25)) (ls' := [(2, .int w1), (0, .ref 0), (1, .int u1)]) (st' := []) (w' := (SH, S, T)) rfl ?_
          refine xj_E.b_eq (fun q => ?_) (fun q => ?_)
          · have hd := hd.1 q
            have h := fun v S9 e => h v S9 (Eq.trans e (if_pos q).symm); have ht := fun q_ v S9 e => ht q_ v S9 (Eq.trans e (if_pos q).symm)
            refine xj_E.adv 1 (pc' := 37) (ls' := [(2, .int w1), (0, .ref 0), (1, .int u1)]) (st' := [.ref 0]) (w' := (SH, S, T)) rfl ?_
            refine xj_E.calli (d := D1) (S := SH) rfl rfl rfl rfl rfl (xj_E.deep (ok_c_lowestToEnter (d := 0) hd.1 ?_) (by omega))
            intro w2 f2
            refine ⟨_, _, _, rfl, rfl, rfl, rfl, ?_⟩
            have hd := hd.2
            rw [← f2] at hd
            have h : ∀ v S9, (0, v, S9) = ((if (r_c_lowestToEnter S) = (-1) then (if (r_c_lowestToComplete S) ≠ (-1) then (match f_c_make (r_c_lowestToComplete S) 4 0 S with | (_, S3) => fk_c_workOff n (u1 + 1) S3) else ((0, S 0 3, S))) else (match f_c_letIn (r_c_lowestToEnter S) S with | (_, S4) => fk_c_workOff n (u1 + 1) S4)) : Nat × Int32 × (Nat → Nat → Int32)) → P (.inl (some (.int v))) (SH, S9, T) 0 0 := h
            rw [← f2] at h
            have ht : ∀ q v S9, (q + 1, v, S9) = ((if (r_c_lowestToEnter S) = (-1) then (if (r_c_lowestToComplete S) ≠ (-1) then (match f_c_make (r_c_lowestToComplete S) 4 0 S with | (_, S3) => fk_c_workOff n (u1 + 1) S3) else ((0, S 0 3, S))) else (match f_c_letIn (r_c_lowestToEnter S) S with | (_, S4) => fk_c_workOff n (u1 + 1) S4)) : Nat × Int32 × (Nat → Nat → Int32)) → P (.inr q) (SH, S9, T) 1 6 := ht
            rw [← f2] at ht
            refine xj_E.adv 4 (pc' := (if xj_cmp .eq w2 (-1) = true then 54 else 46)) (ls' := [(3, .int w2), (2, .int w1), (0, .ref 0), (1, .int u1)]) (st' := []) (w' := (SH, S, T)) rfl ?_
            refine xj_E.b_eq (fun q => ?_) (fun q => ?_)
            · have hd := hd.1 q
              have h := fun v S9 e => h v S9 (Eq.trans e (if_pos q).symm); have ht := fun q_ v S9 e => ht q_ v S9 (Eq.trans e (if_pos q).symm)
              refine xj_E.adv 1 (pc' := 55) (ls' := [(3, .int w2), (2, .int w1), (0, .ref 0), (1, .int u1)]) (st' := [.ref 0]) (w' := (SH, S, T)) rfl ?_
              refine xj_E.calli (d := D1) (S := SH) rfl rfl rfl rfl rfl (xj_E.deep (ok_c_lowestToComplete (d := 0) hd.1 ?_) (by omega))
              intro w3 f3
              refine ⟨_, _, _, rfl, rfl, rfl, rfl, ?_⟩
              have hd := hd.2
              rw [← f3] at hd
              have h : ∀ v S9, (0, v, S9) = ((if (r_c_lowestToComplete S) ≠ (-1) then (match f_c_make (r_c_lowestToComplete S) 4 0 S with | (_, S3) => fk_c_workOff n (u1 + 1) S3) else ((0, S 0 3, S))) : Nat × Int32 × (Nat → Nat → Int32)) → P (.inl (some (.int v))) (SH, S9, T) 0 0 := h
              rw [← f3] at h
              have ht : ∀ q v S9, (q + 1, v, S9) = ((if (r_c_lowestToComplete S) ≠ (-1) then (match f_c_make (r_c_lowestToComplete S) 4 0 S with | (_, S3) => fk_c_workOff n (u1 + 1) S3) else ((0, S 0 3, S))) : Nat × Int32 × (Nat → Nat → Int32)) → P (.inr q) (SH, S9, T) 1 6 := ht
              rw [← f3] at ht
              refine xj_E.adv 4 (pc' := (if xj_cmp .ne w3 (-1) = true then 71 else 66)) (ls' := [(4, .int w3), (3, .int w2), (2, .int w1), (0, .ref 0), (1, .int u1)]) (st' := []) (w' := (SH, S, T)) rfl ?_
              refine xj_E.b_ne (fun q => ?_) (fun q => ?_)
              · have hd := hd.1 q
                have h := fun v S9 e => h v S9 (Eq.trans e (if_pos q).symm); have ht := fun q_ v S9 e => ht q_ v S9 (Eq.trans e (if_pos q).symm)
                refine xj_E.adv 4 (pc' := 76) (ls' := [(4, .int w3), (3, .int w2), (2, .int w1), (0, .ref 0), (1, .int u1)]) (st' := [.int 0, .int 4, .int w3, .ref 0]) (w' := (SH, S, T)) rfl ?_
                refine xj_E.callv (d := D1) (S := SH) rfl rfl rfl rfl rfl (ok_c_make (by omega) hd.1 ?_)
                intro v3 S3 e3
                refine ⟨_, _, rfl, rfl, rfl, rfl, ?_⟩
                have hd := hd.2
                generalize f_c_make w3 4 0 S = Xe3 at e3 hd h ht
                subst e3
                refine xj_E.adv 2 (pc' := 2) (ls' := [(1, .int (u1 + 1)), (4, .int w3), (3, .int w2), (2, .int w1), (0, .ref 0)]) (st' := []) (w' := (SH, S3, T)) rfl ?_
                refine xj_E.loc [0, 1] xhth rfl (show xj_E (xX L xs) (D1 + 1) 48 2 [(0, .ref 0), (1, .int (u1 + 1))] [] (SH, S3, T) P from ?_)
                exact (ih) _ _ _ _ (by omega) hd h ht
              · have hd := hd.2 q
                have h := fun v S9 e => h v S9 (Eq.trans e (if_neg q).symm); have ht := fun q_ v S9 e => ht q_ v S9 (Eq.trans e (if_neg q).symm)
                refine xj_E.adv 2 (pc' := 70) (ls' := [(4, .int w3), (3, .int w2), (2, .int w1), (0, .ref 0), (1, .int u1)]) (st' := [.int (S 0 3)]) (w' := (SH, S, T)) rfl ?_
                exact xj_E.ret rfl rfl rfl rfl (h _ _ rfl)
            · have hd := hd.2 q
              have h := fun v S9 e => h v S9 (Eq.trans e (if_neg q).symm); have ht := fun q_ v S9 e => ht q_ v S9 (Eq.trans e (if_neg q).symm)
              refine xj_E.adv 2 (pc' := 48) (ls' := [(3, .int w2), (2, .int w1), (0, .ref 0), (1, .int u1)]) (st' := [.int w2, .ref 0]) (w' := (SH, S, T)) rfl ?_
              refine xj_E.callv (d := D1) (S := SH) rfl rfl rfl rfl rfl (ok_c_letIn (by omega) hd.1 ?_)
              intro v4 S4 e4
              refine ⟨_, _, rfl, rfl, rfl, rfl, ?_⟩
              have hd := hd.2
              generalize f_c_letIn w2 S = Xe4 at e4 hd h ht
              subst e4
              refine xj_E.adv 3 (pc' := 2) (ls' := [(1, .int (u1 + 1)), (3, .int w2), (2, .int w1), (0, .ref 0)]) (st' := []) (w' := (SH, S4, T)) rfl ?_
              refine xj_E.loc [0, 1] xhth rfl (show xj_E (xX L xs) (D1 + 1) 48 2 [(0, .ref 0), (1, .int (u1 + 1))] [] (SH, S4, T) P from ?_)
              exact (ih) _ _ _ _ (by omega) hd h ht
          · have hd := hd.2 q
            have h := fun v S9 e => h v S9 (Eq.trans e (if_neg q).symm); have ht := fun q_ v S9 e => ht q_ v S9 (Eq.trans e (if_neg q).symm)
            refine xj_E.adv 4 (pc' := 30) (ls' := [(2, .int w1), (0, .ref 0), (1, .int u1)]) (st' := [.int 0, .int 9, .int w1, .ref 0]) (w' := (SH, S, T)) rfl ?_
            refine xj_E.callv (d := D1) (S := SH) rfl rfl rfl rfl rfl (ok_c_make (by omega) hd.1 ?_)
            intro v5 S5 e5
            refine ⟨_, _, rfl, rfl, rfl, rfl, ?_⟩
            have hd := hd.2
            generalize f_c_make w1 9 0 S = Xe5 at e5 hd h ht
            subst e5
            refine xj_E.adv 3 (pc' := 2) (ls' := [(1, .int (u1 + 1)), (2, .int w1), (0, .ref 0)]) (st' := []) (w' := (SH, S5, T)) rfl ?_
            refine xj_E.loc [0, 1] xhth rfl (show xj_E (xX L xs) (D1 + 1) 48 2 [(0, .ref 0), (1, .int (u1 + 1))] [] (SH, S5, T) P from ?_)
            exact (ih) _ _ _ _ (by omega) hd h ht
