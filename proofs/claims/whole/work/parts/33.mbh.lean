/-! a method that stores: our machine does so -/
set_option maxHeartbeats 4000000 in
set_option maxRecDepth 100000 in
theorem ok_m_history {L : Nat} {xs : Nat → Int32} {T : Nat → Nat → Int64} {D : Nat} {S : (Nat → Nat → Int32)} {P : (Option Value ⊕ Nat) → xj_W → Nat → Nat → Prop} {a b : Int32} (hD : 0 ≤ D) (hd : d_m_history a b S) (h : ∀ v S9, (v, S9) = f_m_history a b S → P (.inl (some (.int v))) (SH, S9, T) 0 0) : xj_E (xX L xs) D 113 0 [(0, .ref 32), (1, .int a), (2, .int b)] [] (SH, S, T) P := by
  unfold d_m_history at hd
  unfold f_m_history at h
  refine xj_E.adv 5 (pc' := (if xj_cmp .lt a 0 = true then 23 else 9)) (ls' := [(0, .ref 32), (1, .int a), (2, .int b)]) (st' := []) (w' := (SH, (xj_set S 32 0 0), T)) rfl ?_
  refine xj_E.b_lt (fun q => ?_) (fun q => ?_)
  · have hd := hd.1 q
    have h := fun v S9 e => h v S9 (Eq.trans e (if_pos q).symm)
    refine xj_E.adv 1 (pc' := 24) (ls' := [(0, .ref 32), (1, .int a), (2, .int b)]) (st' := [.int (-1)]) (w' := (SH, (xj_set S 32 0 0), T)) rfl ?_
    exact xj_E.ret rfl rfl rfl rfl (h _ _ rfl)
  · have hd := hd.2 q
    have h := fun v S9 e => h v S9 (Eq.trans e (if_neg q).symm)
    refine xj_E.adv 3 (pc' := (if xj_cmp .gt a 47 = true then 23 else 15)) (ls' := [(0, .ref 32), (1, .int a), (2, .int b)]) (st' := []) (w' := (SH, (xj_set S 32 0 0), T)) rfl ?_
    refine xj_E.b_gt (fun q => ?_) (fun q => ?_)
    · have hd := hd.1 q
      have h := fun v S9 e => h v S9 (Eq.trans e (if_pos q).symm)
      refine xj_E.adv 1 (pc' := 24) (ls' := [(0, .ref 32), (1, .int a), (2, .int b)]) (st' := [.int (-1)]) (w' := (SH, (xj_set S 32 0 0), T)) rfl ?_
      exact xj_E.ret rfl rfl rfl rfl (h _ _ rfl)
    · have hd := hd.2 q
      have h := fun v S9 e => h v S9 (Eq.trans e (if_neg q).symm)
      refine xj_E.adv 4 (pc' := (if xj_cmp .lt a (S 32 24) = true then 25 else 23)) (ls' := [(0, .ref 32), (1, .int a), (2, .int b)]) (st' := []) (w' := (SH, (xj_set S 32 0 0), T)) rfl ?_
      refine xj_E.b_lt (fun q => ?_) (fun q => ?_)
      · have hd := hd.1 q
        have h := fun v S9 e => h v S9 (Eq.trans e (if_pos q).symm)
        refine xj_E.adv 11 (pc' := (if xj_cmp .ne b 0 = true then 50 else 41)) (ls' := [(3, .int ((((S 32 24) - 1) - a) - (((S 32 24) - 1) - a) / 48 * 48)), (0, .ref 32), (1, .int a), (2, .int b)]) (st' := []) (w' := (SH, (xj_set S 32 0 0), T)) rfl ?_
        refine xj_E.b_ne (fun q => ?_) (fun q => ?_)
        · have hd := hd.1 q
          have h := fun v S9 e => h v S9 (Eq.trans e (if_pos q).symm)
          refine xj_E.adv 3 (pc' := (if xj_cmp .ne b 1 = true then 64 else 55)) (ls' := [(3, .int ((((S 32 24) - 1) - a) - (((S 32 24) - 1) - a) / 48 * 48)), (0, .ref 32), (1, .int a), (2, .int b)]) (st' := []) (w' := (SH, (xj_set S 32 0 0), T)) rfl ?_
          refine xj_E.b_ne (fun q => ?_) (fun q => ?_)
          · have hd := hd.1 q
            have h := fun v S9 e => h v S9 (Eq.trans e (if_pos q).symm)
            refine xj_E.adv 1 (pc' := 65) (ls' := [(3, .int ((((S 32 24) - 1) - a) - (((S 32 24) - 1) - a) / 48 * 48)), (0, .ref 32), (1, .int a), (2, .int b)]) (st' := [.int (-1)]) (w' := (SH, (xj_set S 32 0 0), T)) rfl ?_
            exact xj_E.ret rfl rfl rfl rfl (h _ _ rfl)
          · have hd := hd.2 q
            have h := fun v S9 e => h v S9 (Eq.trans e (if_neg q).symm)
            refine xj_E.adv 3 (pc' := 60) (ls' := [(3, .int ((((S 32 24) - 1) - a) - (((S 32 24) - 1) - a) / 48 * 48)), (0, .ref 32), (1, .int a), (2, .int b)]) (st' := [.int ((((S 32 24) - 1) - a) - (((S 32 24) - 1) - a) / 48 * 48), .ref 52]) (w' := (SH, (xj_set S 32 0 0), T)) rfl ?_
            refine xj_E.iald rfl rfl hd.1 ?_
            have hd := hd.2
            refine xj_E.adv 1 (pc' := 65) (ls' := [(3, .int ((((S 32 24) - 1) - a) - (((S 32 24) - 1) - a) / 48 * 48)), (0, .ref 32), (1, .int a), (2, .int b)]) (st' := [.int (S 52 ((((S 32 24) - 1) - a) - (((S 32 24) - 1) - a) / 48 * 48).toNatClampNeg)]) (w' := (SH, (xj_set S 32 0 0), T)) rfl ?_
            exact xj_E.ret rfl rfl rfl rfl (h _ _ rfl)
        · have hd := hd.2 q
          have h := fun v S9 e => h v S9 (Eq.trans e (if_neg q).symm)
          refine xj_E.adv 3 (pc' := 46) (ls' := [(3, .int ((((S 32 24) - 1) - a) - (((S 32 24) - 1) - a) / 48 * 48)), (0, .ref 32), (1, .int a), (2, .int b)]) (st' := [.int ((((S 32 24) - 1) - a) - (((S 32 24) - 1) - a) / 48 * 48), .ref 51]) (w' := (SH, (xj_set S 32 0 0), T)) rfl ?_
          refine xj_E.iald rfl rfl hd.1 ?_
          have hd := hd.2
          refine xj_E.adv 1 (pc' := 65) (ls' := [(3, .int ((((S 32 24) - 1) - a) - (((S 32 24) - 1) - a) / 48 * 48)), (0, .ref 32), (1, .int a), (2, .int b)]) (st' := [.int (S 51 ((((S 32 24) - 1) - a) - (((S 32 24) - 1) - a) / 48 * 48).toNatClampNeg)]) (w' := (SH, (xj_set S 32 0 0), T)) rfl ?_
          exact xj_E.ret rfl rfl rfl rfl (h _ _ rfl)
      · have hd := hd.2 q
        have h := fun v S9 e => h v S9 (Eq.trans e (if_neg q).symm)
        refine xj_E.adv 1 (pc' := 24) (ls' := [(0, .ref 32), (1, .int a), (2, .int b)]) (st' := [.int (-1)]) (w' := (SH, (xj_set S 32 0 0), T)) rfl ?_
        exact xj_E.ret rfl rfl rfl rfl (h _ _ rfl)
