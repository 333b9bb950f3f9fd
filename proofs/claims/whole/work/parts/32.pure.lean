/-! methods that change nothing: our machine does so -/
set_option maxRecDepth 100000 in
theorem ok_f_floorMod {L d : Nat} {xs : Nat → Int32} {S : Nat → Nat → Int32} {T : Nat → Nat → Int64} {P : (Option Value ⊕ Nat) → xj_W → Nat → Nat → Prop} {a b : Int32} (hd : d_f_floorMod S a b) (h : ∀ v, v = r_f_floorMod S a b → P (.inl (some (.int v))) (SH, S, T) 0 0) : xj_E (xX L xs) d 1 0 [(0, .int a), (1, .int b)] [] (SH, S, T) P := by
  unfold d_f_floorMod at hd
  unfold r_f_floorMod at h
  refine xj_E.adv 2 (pc' := 2) (ls' := [(0, .int a), (1, .int b)]) (st' := [.int b, .int a]) (w' := (SH, S, T)) rfl ?_
  refine xj_E.irem rfl hd.1 ?_
  have hd := hd.2
  refine xj_E.adv 5 (pc' := (if xj_cmp .ge (a ^^^ b) 0 = true then 18 else 10)) (ls' := [(2, .int (a - a / b * b)), (0, .int a), (1, .int b)]) (st' := []) (w' := (SH, S, T)) rfl ?_
  refine xj_E.b_ge (fun q => ?_) (fun q => ?_)
  · have hd := hd.1 q
    have h := fun v e => h v (Eq.trans e (if_pos q).symm)
    refine xj_E.adv 1 (pc' := 19) (ls' := [(2, .int (a - a / b * b)), (0, .int a), (1, .int b)]) (st' := [.int (a - a / b * b)]) (w' := (SH, S, T)) rfl ?_
    exact xj_E.ret rfl rfl rfl rfl (h _ rfl)
  · have hd := hd.2 q
    have h := fun v e => h v (Eq.trans e (if_neg q).symm)
    refine xj_E.adv 2 (pc' := (if xj_cmp .eq (a - a / b * b) 0 = true then 18 else 14)) (ls' := [(2, .int (a - a / b * b)), (0, .int a), (1, .int b)]) (st' := []) (w' := (SH, S, T)) rfl ?_
    refine xj_E.b_eq (fun q => ?_) (fun q => ?_)
    · have hd := hd.1 q
      have h := fun v e => h v (Eq.trans e (if_pos q).symm)
      refine xj_E.adv 1 (pc' := 19) (ls' := [(2, .int (a - a / b * b)), (0, .int a), (1, .int b)]) (st' := [.int (a - a / b * b)]) (w' := (SH, S, T)) rfl ?_
      exact xj_E.ret rfl rfl rfl rfl (h _ rfl)
    · have hd := hd.2 q
      have h := fun v e => h v (Eq.trans e (if_neg q).symm)
      refine xj_E.adv 3 (pc' := 17) (ls' := [(2, .int (a - a / b * b)), (0, .int a), (1, .int b)]) (st' := [.int ((a - a / b * b) + b)]) (w' := (SH, S, T)) rfl ?_
      exact xj_E.ret rfl rfl rfl rfl (h _ rfl)
set_option maxRecDepth 100000 in
theorem ok_l_hasBegun {L d : Nat} {xs : Nat → Int32} {S : Nat → Nat → Int32} {T : Nat → Nat → Int64} {P : (Option Value ⊕ Nat) → xj_W → Nat → Nat → Prop} (hd : d_l_hasBegun S ) (h : ∀ v, v = r_l_hasBegun S  → P (.inl (some (.int v))) (SH, S, T) 0 0) : xj_E (xX L xs) d 3 0 [(0, .ref 14)] [] (SH, S, T) P := by
  unfold d_l_hasBegun at hd
  unfold r_l_hasBegun at h
  refine xj_E.adv 3 (pc' := (if xj_cmp .le (S 14 1) 0 = true then 11 else 7)) (ls' := [(0, .ref 14)]) (st' := []) (w' := (SH, S, T)) rfl ?_
  refine xj_E.b_le (fun q => ?_) (fun q => ?_)
  · have hd := hd.1 q
    have h := fun v e => h v (Eq.trans e (if_pos q).symm)
    refine xj_E.adv 1 (pc' := 12) (ls' := [(0, .ref 14)]) (st' := [.int 0]) (w' := (SH, S, T)) rfl ?_
    exact xj_E.ret rfl rfl rfl rfl (h _ rfl)
  · have hd := hd.2 q
    have h := fun v e => h v (Eq.trans e (if_neg q).symm)
    refine xj_E.adv 2 (pc' := 12) (ls' := [(0, .ref 14)]) (st' := [.int 1]) (w' := (SH, S, T)) rfl ?_
    exact xj_E.ret rfl rfl rfl rfl (h _ rfl)
set_option maxRecDepth 100000 in
theorem ok_l_has {L d : Nat} {xs : Nat → Int32} {S : Nat → Nat → Int32} {T : Nat → Nat → Int64} {P : (Option Value ⊕ Nat) → xj_W → Nat → Nat → Prop} {a : Int32} (hd : d_l_has S a) (h : ∀ v, v = r_l_has S a → P (.inl (some (.int v))) (SH, S, T) 0 0) : xj_E (xX L xs) d 4 0 [(0, .ref 14), (1, .int a)] [] (SH, S, T) P := by
  unfold d_l_has at hd
  unfold r_l_has at h
  refine xj_E.adv 2 (pc' := (if xj_cmp .lt a 0 = true then 16 else 4)) (ls' := [(0, .ref 14), (1, .int a)]) (st' := []) (w' := (SH, S, T)) rfl ?_
  refine xj_E.b_lt (fun q => ?_) (fun q => ?_)
  · have hd := hd.1 q
    have h := fun v e => h v (Eq.trans e (if_pos q).symm)
    refine xj_E.adv 1 (pc' := 17) (ls' := [(0, .ref 14), (1, .int a)]) (st' := [.int 0]) (w' := (SH, S, T)) rfl ?_
    exact xj_E.ret rfl rfl rfl rfl (h _ rfl)
  · have hd := hd.2 q
    have h := fun v e => h v (Eq.trans e (if_neg q).symm)
    refine xj_E.adv 4 (pc' := (if xj_cmp .ge a (S 14 1) = true then 16 else 12)) (ls' := [(0, .ref 14), (1, .int a)]) (st' := []) (w' := (SH, S, T)) rfl ?_
    refine xj_E.b_ge (fun q => ?_) (fun q => ?_)
    · have hd := hd.1 q
      have h := fun v e => h v (Eq.trans e (if_pos q).symm)
      refine xj_E.adv 1 (pc' := 17) (ls' := [(0, .ref 14), (1, .int a)]) (st' := [.int 0]) (w' := (SH, S, T)) rfl ?_
      exact xj_E.ret rfl rfl rfl rfl (h _ rfl)
    · have hd := hd.2 q
      have h := fun v e => h v (Eq.trans e (if_neg q).symm)
      refine xj_E.adv 2 (pc' := 17) (ls' := [(0, .ref 14), (1, .int a)]) (st' := [.int 1]) (w' := (SH, S, T)) rfl ?_
      exact xj_E.ret rfl rfl rfl rfl (h _ rfl)
set_option maxRecDepth 100000 in
theorem ok_l_isFinal {L d : Nat} {xs : Nat → Int32} {S : Nat → Nat → Int32} {T : Nat → Nat → Int64} {P : (Option Value ⊕ Nat) → xj_W → Nat → Nat → Prop} {a : Int32} (hd : d_l_isFinal S a) (h : ∀ v, v = r_l_isFinal S a → P (.inl (some (.int v))) (SH, S, T) 0 0) : xj_E (xX L xs) d 5 0 [(0, .ref 14), (1, .int a)] [] (SH, S, T) P := by
  unfold d_l_isFinal at hd
  unfold r_l_isFinal at h
  refine xj_E.adv 3 (pc' := 5) (ls' := [(0, .ref 14), (1, .int a)]) (st' := [.int a, .ref 17]) (w' := (SH, S, T)) rfl ?_
  refine xj_E.iald rfl rfl hd.1 ?_
  have hd := hd.2
  refine xj_E.adv 2 (pc' := (if xj_cmp .eq (S 17 a.toNatClampNeg) 4 = true then 20 else 10)) (ls' := [(0, .ref 14), (1, .int a)]) (st' := []) (w' := (SH, S, T)) rfl ?_
  refine xj_E.b_eq (fun q => ?_) (fun q => ?_)
  · have hd := hd.1 q
    have h := fun v e => h v (Eq.trans e (if_pos q).symm)
    refine xj_E.adv 2 (pc' := 25) (ls' := [(0, .ref 14), (1, .int a)]) (st' := [.int 1]) (w' := (SH, S, T)) rfl ?_
    exact xj_E.ret rfl rfl rfl rfl (h _ rfl)
  · have hd := hd.2 q
    have h := fun v e => h v (Eq.trans e (if_neg q).symm)
    refine xj_E.adv 3 (pc' := 15) (ls' := [(0, .ref 14), (1, .int a)]) (st' := [.int a, .ref 17]) (w' := (SH, S, T)) rfl ?_
    refine xj_E.iald rfl rfl hd.1 ?_
    have hd := hd.2
    refine xj_E.adv 2 (pc' := (if xj_cmp .ne (S 17 a.toNatClampNeg) 5 = true then 24 else 20)) (ls' := [(0, .ref 14), (1, .int a)]) (st' := []) (w' := (SH, S, T)) rfl ?_
    refine xj_E.b_ne (fun q => ?_) (fun q => ?_)
    · have hd := hd.1 q
      have h := fun v e => h v (Eq.trans e (if_pos q).symm)
      refine xj_E.adv 1 (pc' := 25) (ls' := [(0, .ref 14), (1, .int a)]) (st' := [.int 0]) (w' := (SH, S, T)) rfl ?_
      exact xj_E.ret rfl rfl rfl rfl (h _ rfl)
    · have hd := hd.2 q
      have h := fun v e => h v (Eq.trans e (if_neg q).symm)
      refine xj_E.adv 2 (pc' := 25) (ls' := [(0, .ref 14), (1, .int a)]) (st' := [.int 1]) (w' := (SH, S, T)) rfl ?_
      exact xj_E.ret rfl rfl rfl rfl (h _ rfl)
set_option maxRecDepth 100000 in
theorem ok_l_isWaiting {L d : Nat} {xs : Nat → Int32} {S : Nat → Nat → Int32} {T : Nat → Nat → Int64} {P : (Option Value ⊕ Nat) → xj_W → Nat → Nat → Prop} {a : Int32} (hd : d_l_isWaiting S a) (h : ∀ v, v = r_l_isWaiting S a → P (.inl (some (.int v))) (SH, S, T) 0 0) : xj_E (xX L xs) d 6 0 [(0, .ref 14), (1, .int a)] [] (SH, S, T) P := by
  unfold d_l_isWaiting at hd
  unfold r_l_isWaiting at h
  refine xj_E.adv 3 (pc' := 5) (ls' := [(0, .ref 14), (1, .int a)]) (st' := [.int a, .ref 17]) (w' := (SH, S, T)) rfl ?_
  refine xj_E.iald rfl rfl hd.1 ?_
  have hd := hd.2
  refine xj_E.adv 1 (pc' := (if xj_cmp .eq (S 17 a.toNatClampNeg) 0 = true then 19 else 9)) (ls' := [(0, .ref 14), (1, .int a)]) (st' := []) (w' := (SH, S, T)) rfl ?_
  refine xj_E.b_eq (fun q => ?_) (fun q => ?_)
  · have hd := hd.1 q
    have h := fun v e => h v (Eq.trans e (if_pos q).symm)
    refine xj_E.adv 2 (pc' := 24) (ls' := [(0, .ref 14), (1, .int a)]) (st' := [.int 1]) (w' := (SH, S, T)) rfl ?_
    exact xj_E.ret rfl rfl rfl rfl (h _ rfl)
  · have hd := hd.2 q
    have h := fun v e => h v (Eq.trans e (if_neg q).symm)
    refine xj_E.adv 3 (pc' := 14) (ls' := [(0, .ref 14), (1, .int a)]) (st' := [.int a, .ref 17]) (w' := (SH, S, T)) rfl ?_
    refine xj_E.iald rfl rfl hd.1 ?_
    have hd := hd.2
    refine xj_E.adv 2 (pc' := (if xj_cmp .ne (S 17 a.toNatClampNeg) 1 = true then 23 else 19)) (ls' := [(0, .ref 14), (1, .int a)]) (st' := []) (w' := (SH, S, T)) rfl ?_
    refine xj_E.b_ne (fun q => ?_) (fun q => ?_)
    · have hd := hd.1 q
      have h := fun v e => h v (Eq.trans e (if_pos q).symm)
      refine xj_E.adv 1 (pc' := 24) (ls' := [(0, .ref 14), (1, .int a)]) (st' := [.int 0]) (w' := (SH, S, T)) rfl ?_
      exact xj_E.ret rfl rfl rfl rfl (h _ rfl)
    · have hd := hd.2 q
      have h := fun v e => h v (Eq.trans e (if_neg q).symm)
      refine xj_E.adv 2 (pc' := 24) (ls' := [(0, .ref 14), (1, .int a)]) (st' := [.int 1]) (w' := (SH, S, T)) rfl ?_
      exact xj_E.ret rfl rfl rfl rfl (h _ rfl)
set_option maxRecDepth 100000 in
theorem ok_p_partBit {L d : Nat} {xs : Nat → Int32} {S : Nat → Nat → Int32} {T : Nat → Nat → Int64} {P : (Option Value ⊕ Nat) → xj_W → Nat → Nat → Prop} {a b : Int32} (hd : d_p_partBit S a b) (h : ∀ v, v = r_p_partBit S a b → P (.inl (some (.int v))) (SH, S, T) 0 0) : xj_E (xX L xs) d 11 0 [(0, .int a), (1, .int b)] [] (SH, S, T) P := by
  unfold d_p_partBit at hd
  unfold r_p_partBit at h
  refine xj_E.adv 7 (pc' := 7) (ls' := [(0, .int a), (1, .int b)]) (st' := [.int (1 <<< (((a * 2) + b) &&& 31))]) (w' := (SH, S, T)) rfl ?_
  exact xj_E.ret rfl rfl rfl rfl (h _ rfl)
set_option maxRecDepth 100000 in
theorem ok_p_hasItem {L d : Nat} {xs : Nat → Int32} {S : Nat → Nat → Int32} {T : Nat → Nat → Int64} {P : (Option Value ⊕ Nat) → xj_W → Nat → Nat → Prop} {a : Int32} (hd : d_p_hasItem S a) (h : ∀ v, v = r_p_hasItem S a → P (.inl (some (.int v))) (SH, S, T) 0 0) : xj_E (xX L xs) d 12 0 [(0, .ref 1), (1, .int a)] [] (SH, S, T) P := by
  unfold d_p_hasItem at hd
  unfold r_p_hasItem at h
  refine xj_E.adv 2 (pc' := (if xj_cmp .lt a 0 = true then 16 else 4)) (ls' := [(0, .ref 1), (1, .int a)]) (st' := []) (w' := (SH, S, T)) rfl ?_
  refine xj_E.b_lt (fun q => ?_) (fun q => ?_)
  · have hd := hd.1 q
    have h := fun v e => h v (Eq.trans e (if_pos q).symm)
    refine xj_E.adv 1 (pc' := 17) (ls' := [(0, .ref 1), (1, .int a)]) (st' := [.int 0]) (w' := (SH, S, T)) rfl ?_
    exact xj_E.ret rfl rfl rfl rfl (h _ rfl)
  · have hd := hd.2 q
    have h := fun v e => h v (Eq.trans e (if_neg q).symm)
    refine xj_E.adv 4 (pc' := (if xj_cmp .ge a (S 1 0) = true then 16 else 12)) (ls' := [(0, .ref 1), (1, .int a)]) (st' := []) (w' := (SH, S, T)) rfl ?_
    refine xj_E.b_ge (fun q => ?_) (fun q => ?_)
    · have hd := hd.1 q
      have h := fun v e => h v (Eq.trans e (if_pos q).symm)
      refine xj_E.adv 1 (pc' := 17) (ls' := [(0, .ref 1), (1, .int a)]) (st' := [.int 0]) (w' := (SH, S, T)) rfl ?_
      exact xj_E.ret rfl rfl rfl rfl (h _ rfl)
    · have hd := hd.2 q
      have h := fun v e => h v (Eq.trans e (if_neg q).symm)
      refine xj_E.adv 2 (pc' := 17) (ls' := [(0, .ref 1), (1, .int a)]) (st' := [.int 1]) (w' := (SH, S, T)) rfl ?_
      exact xj_E.ret rfl rfl rfl rfl (h _ rfl)
set_option maxRecDepth 100000 in
theorem ok_p_isStage {L d : Nat} {xs : Nat → Int32} {S : Nat → Nat → Int32} {T : Nat → Nat → Int64} {P : (Option Value ⊕ Nat) → xj_W → Nat → Nat → Prop} {a : Int32} (hd : d_p_isStage S a) (h : ∀ v, v = r_p_isStage S a → P (.inl (some (.int v))) (SH, S, T) 0 0) : xj_E (xX L xs) (d + 1) 13 0 [(0, .ref 1), (1, .int a)] [] (SH, S, T) P := by
  unfold d_p_isStage at hd
  unfold r_p_isStage at h
  refine xj_E.adv 2 (pc' := 2) (ls' := [(0, .ref 1), (1, .int a)]) (st' := [.int a, .ref 1]) (w' := (SH, S, T)) rfl ?_
  refine xj_E.calli (d := d) (S := SH) rfl rfl rfl rfl rfl (ok_p_hasItem hd.1 ?_)
  intro v e
  subst e
  refine ⟨_, S, T, rfl, rfl, rfl, rfl, ?_⟩
  have hd := hd.2
  refine xj_E.adv 1 (pc' := (if xj_cmp .eq (r_p_hasItem S a) 0 = true then 21 else 8)) (ls' := [(0, .ref 1), (1, .int a)]) (st' := []) (w' := (SH, S, T)) rfl ?_
  refine xj_E.b_eq (fun q => ?_) (fun q => ?_)
  · have hd := hd.1 q
    have h := fun v e => h v (Eq.trans e (if_pos q).symm)
    refine xj_E.adv 1 (pc' := 22) (ls' := [(0, .ref 1), (1, .int a)]) (st' := [.int 0]) (w' := (SH, S, T)) rfl ?_
    exact xj_E.ret rfl rfl rfl rfl (h _ rfl)
  · have hd := hd.2 q
    have h := fun v e => h v (Eq.trans e (if_neg q).symm)
    refine xj_E.adv 3 (pc' := 13) (ls' := [(0, .ref 1), (1, .int a)]) (st' := [.int a, .ref 2]) (w' := (SH, S, T)) rfl ?_
    refine xj_E.iald rfl rfl hd.1 ?_
    have hd := hd.2
    refine xj_E.adv 1 (pc' := (if xj_cmp .ne (S 2 a.toNatClampNeg) 0 = true then 21 else 17)) (ls' := [(0, .ref 1), (1, .int a)]) (st' := []) (w' := (SH, S, T)) rfl ?_
    refine xj_E.b_ne (fun q => ?_) (fun q => ?_)
    · have hd := hd.1 q
      have h := fun v e => h v (Eq.trans e (if_pos q).symm)
      refine xj_E.adv 1 (pc' := 22) (ls' := [(0, .ref 1), (1, .int a)]) (st' := [.int 0]) (w' := (SH, S, T)) rfl ?_
      exact xj_E.ret rfl rfl rfl rfl (h _ rfl)
    · have hd := hd.2 q
      have h := fun v e => h v (Eq.trans e (if_neg q).symm)
      refine xj_E.adv 2 (pc' := 22) (ls' := [(0, .ref 1), (1, .int a)]) (st' := [.int 1]) (w' := (SH, S, T)) rfl ?_
      exact xj_E.ret rfl rfl rfl rfl (h _ rfl)
set_option maxRecDepth 100000 in
theorem ok_p_hasFlag {L d : Nat} {xs : Nat → Int32} {S : Nat → Nat → Int32} {T : Nat → Nat → Int64} {P : (Option Value ⊕ Nat) → xj_W → Nat → Nat → Prop} {a b : Int32} (hd : d_p_hasFlag S a b) (h : ∀ v, v = r_p_hasFlag S a b → P (.inl (some (.int v))) (SH, S, T) 0 0) : xj_E (xX L xs) d 14 0 [(0, .ref 1), (1, .int a), (2, .int b)] [] (SH, S, T) P := by
  unfold d_p_hasFlag at hd
  unfold r_p_hasFlag at h
  refine xj_E.adv 3 (pc' := 5) (ls' := [(0, .ref 1), (1, .int a), (2, .int b)]) (st' := [.int a, .ref 4]) (w' := (SH, S, T)) rfl ?_
  refine xj_E.iald rfl rfl hd.1 ?_
  have hd := hd.2
  refine xj_E.adv 3 (pc' := (if xj_cmp .eq ((S 4 a.toNatClampNeg) &&& b) 0 = true then 15 else 11)) (ls' := [(0, .ref 1), (1, .int a), (2, .int b)]) (st' := []) (w' := (SH, S, T)) rfl ?_
  refine xj_E.b_eq (fun q => ?_) (fun q => ?_)
  · have hd := hd.1 q
    have h := fun v e => h v (Eq.trans e (if_pos q).symm)
    refine xj_E.adv 1 (pc' := 16) (ls' := [(0, .ref 1), (1, .int a), (2, .int b)]) (st' := [.int 0]) (w' := (SH, S, T)) rfl ?_
    exact xj_E.ret rfl rfl rfl rfl (h _ rfl)
  · have hd := hd.2 q
    have h := fun v e => h v (Eq.trans e (if_neg q).symm)
    refine xj_E.adv 2 (pc' := 16) (ls' := [(0, .ref 1), (1, .int a), (2, .int b)]) (st' := [.int 1]) (w' := (SH, S, T)) rfl ?_
    exact xj_E.ret rfl rfl rfl rfl (h _ rfl)
set_option maxRecDepth 100000 in
theorem okl_p_hasEntry {L d : Nat} {xs : Nat → Int32} {S : Nat → Nat → Int32} {T : Nat → Nat → Int64} {P : (Option Value ⊕ Nat) → xj_W → Nat → Nat → Prop} (n : Nat) : (∀ u1 u2, dl0_p_hasEntry n S u1 u2 → (∀ v, v = rl0_p_hasEntry n S u1 u2 → P (.inl (some (.int v))) (SH, S, T) 0 0) → xj_E (xX L xs) d 15 2 [(0, .ref 1), (1, .int u1), (2, .int u2)] [] (SH, S, T) P) := by
  induction n with
  | zero =>
    exact fun _ _ hd _ => hd.elim
  | succ n ih =>
    intro u1 u2 hd h
    refine xj_E.adv 4 (pc' := (if xj_cmp .ge u2 (S 1 5) = true then 37 else 10)) (ls' := [(0, .ref 1), (1, .int u1), (2, .int u2)]) (st' := []) (w' := (SH, S, T)) rfl ?_
    refine xj_E.b_ge (fun q => ?_) (fun q => ?_)
    · have hd := hd.1 q
      have h := fun v e => h v (Eq.trans e (if_pos q).symm)
      refine xj_E.adv 1 (pc' := 38) (ls' := [(0, .ref 1), (1, .int u1), (2, .int u2)]) (st' := [.int 0]) (w' := (SH, S, T)) rfl ?_
      exact xj_E.ret rfl rfl rfl rfl (h _ rfl)
    · have hd := hd.2 q
      have h := fun v e => h v (Eq.trans e (if_neg q).symm)
      refine xj_E.adv 3 (pc' := 15) (ls' := [(0, .ref 1), (1, .int u1), (2, .int u2)]) (st' := [.int u2, .ref 6]) (w' := (SH, S, T)) rfl ?_
      refine xj_E.iald rfl rfl hd.1 ?_
      have hd := hd.2
      refine xj_E.adv 2 (pc' := (if xj_cmp .ne (S 6 u2.toNatClampNeg) u1 = true then 31 else 20)) (ls' := [(0, .ref 1), (1, .int u1), (2, .int u2)]) (st' := []) (w' := (SH, S, T)) rfl ?_
      refine xj_E.b_ne (fun q => ?_) (fun q => ?_)
      · have hd := hd.1 q
        have h := fun v e => h v (Eq.trans e (if_pos q).symm)
        refine xj_E.adv 2 (pc' := 2) (ls' := [(2, .int (u2 + 1)), (0, .ref 1), (1, .int u1)]) (st' := []) (w' := (SH, S, T)) rfl ?_
        refine xj_E.loc [0, 1, 2] xhth rfl (show xj_E (xX L xs) d 15 2 [(0, .ref 1), (1, .int u1), (2, .int (u2 + 1))] [] (SH, S, T) P from ?_)
        exact (ih) _ _ hd h
      · have hd := hd.2 q
        have h := fun v e => h v (Eq.trans e (if_neg q).symm)
        refine xj_E.adv 3 (pc' := 25) (ls' := [(0, .ref 1), (1, .int u1), (2, .int u2)]) (st' := [.int u2, .ref 7]) (w' := (SH, S, T)) rfl ?_
        refine xj_E.bald rfl rfl hd.1 ?_
        have hd := hd.2
        refine xj_E.adv 1 (pc' := (if xj_cmp .ne (S 7 u2.toNatClampNeg) 0 = true then 31 else 29)) (ls' := [(0, .ref 1), (1, .int u1), (2, .int u2)]) (st' := []) (w' := (SH, S, T)) rfl ?_
        refine xj_E.b_ne (fun q => ?_) (fun q => ?_)
        · have hd := hd.1 q
          have h := fun v e => h v (Eq.trans e (if_pos q).symm)
          refine xj_E.adv 2 (pc' := 2) (ls' := [(2, .int (u2 + 1)), (0, .ref 1), (1, .int u1)]) (st' := []) (w' := (SH, S, T)) rfl ?_
          refine xj_E.loc [0, 1, 2] xhth rfl (show xj_E (xX L xs) d 15 2 [(0, .ref 1), (1, .int u1), (2, .int (u2 + 1))] [] (SH, S, T) P from ?_)
          exact (ih) _ _ hd h
        · have hd := hd.2 q
          have h := fun v e => h v (Eq.trans e (if_neg q).symm)
          refine xj_E.adv 1 (pc' := 30) (ls' := [(0, .ref 1), (1, .int u1), (2, .int u2)]) (st' := [.int 1]) (w' := (SH, S, T)) rfl ?_
          exact xj_E.ret rfl rfl rfl rfl (h _ rfl)
set_option maxRecDepth 100000 in
theorem ok_p_hasEntry {L d : Nat} {xs : Nat → Int32} {S : Nat → Nat → Int32} {T : Nat → Nat → Int64} {P : (Option Value ⊕ Nat) → xj_W → Nat → Nat → Prop} {a : Int32} (hd : d_p_hasEntry S a) (h : ∀ v, v = r_p_hasEntry S a → P (.inl (some (.int v))) (SH, S, T) 0 0) : xj_E (xX L xs) d 15 0 [(0, .ref 1), (1, .int a)] [] (SH, S, T) P := by
  unfold d_p_hasEntry at hd
  unfold r_p_hasEntry at h
  refine xj_E.adv 2 (pc' := 2) (ls' := [(2, .int 0), (0, .ref 1), (1, .int a)]) (st' := []) (w' := (SH, S, T)) rfl ?_
  refine xj_E.loc [0, 1, 2] xhth rfl (show xj_E (xX L xs) d 15 2 [(0, .ref 1), (1, .int a), (2, .int 0)] [] (SH, S, T) P from ?_)
  exact (okl_p_hasEntry 200) _ _ hd h
set_option maxRecDepth 100000 in
theorem ok_p_mayHaveSentry {L d : Nat} {xs : Nat → Int32} {S : Nat → Nat → Int32} {T : Nat → Nat → Int64} {P : (Option Value ⊕ Nat) → xj_W → Nat → Nat → Prop} {a b : Int32} (hd : d_p_mayHaveSentry S a b) (h : ∀ v, v = r_p_mayHaveSentry S a b → P (.inl (some (.int v))) (SH, S, T) 0 0) : xj_E (xX L xs) (d + 1) 17 0 [(0, .ref 1), (1, .int a), (2, .int b)] [] (SH, S, T) P := by
  unfold d_p_mayHaveSentry at hd
  unfold r_p_mayHaveSentry at h
  refine xj_E.adv 2 (pc' := 2) (ls' := [(0, .ref 1), (1, .int a), (2, .int b)]) (st' := [.int a, .ref 1]) (w' := (SH, S, T)) rfl ?_
  refine xj_E.calli (d := d) (S := SH) rfl rfl rfl rfl rfl (ok_p_hasItem hd.1 ?_)
  intro v e
  subst e
  refine ⟨_, S, T, rfl, rfl, rfl, rfl, ?_⟩
  have hd := hd.2
  refine xj_E.adv 1 (pc' := (if xj_cmp .eq (r_p_hasItem S a) 0 = true then 12 else 8)) (ls' := [(0, .ref 1), (1, .int a), (2, .int b)]) (st' := []) (w' := (SH, S, T)) rfl ?_
  refine xj_E.b_eq (fun q => ?_) (fun q => ?_)
  · have hd := hd.1 q
    have h := fun v e => h v (Eq.trans e (if_pos q).symm)
    refine xj_E.adv 1 (pc' := 13) (ls' := [(0, .ref 1), (1, .int a), (2, .int b)]) (st' := [.int 0]) (w' := (SH, S, T)) rfl ?_
    exact xj_E.ret rfl rfl rfl rfl (h _ rfl)
  · have hd := hd.2 q
    have h := fun v e => h v (Eq.trans e (if_neg q).symm)
    refine xj_E.adv 2 (pc' := (if xj_cmp .ne a 0 = true then 14 else 12)) (ls' := [(0, .ref 1), (1, .int a), (2, .int b)]) (st' := []) (w' := (SH, S, T)) rfl ?_
    refine xj_E.b_ne (fun q => ?_) (fun q => ?_)
    · have hd := hd.1 q
      have h := fun v e => h v (Eq.trans e (if_pos q).symm)
      refine xj_E.adv 3 (pc' := 19) (ls' := [(0, .ref 1), (1, .int a), (2, .int b)]) (st' := [.int a, .ref 2]) (w' := (SH, S, T)) rfl ?_
      refine xj_E.iald rfl rfl hd.1 ?_
      have hd := hd.2
      refine xj_E.adv 1 (pc' := (if xj_cmp .eq (S 2 a.toNatClampNeg) 0 = true then 47 else 23)) (ls' := [(0, .ref 1), (1, .int a), (2, .int b)]) (st' := []) (w' := (SH, S, T)) rfl ?_
      refine xj_E.b_eq (fun q => ?_) (fun q => ?_)
      · have hd := hd.1 q
        have h := fun v e => h v (Eq.trans e (if_pos q).symm)
        refine xj_E.adv 2 (pc' := 52) (ls' := [(0, .ref 1), (1, .int a), (2, .int b)]) (st' := [.int 1]) (w' := (SH, S, T)) rfl ?_
        exact xj_E.ret rfl rfl rfl rfl (h _ rfl)
      · have hd := hd.2 q
        have h := fun v e => h v (Eq.trans e (if_neg q).symm)
        refine xj_E.adv 3 (pc' := 28) (ls' := [(0, .ref 1), (1, .int a), (2, .int b)]) (st' := [.int a, .ref 2]) (w' := (SH, S, T)) rfl ?_
        refine xj_E.iald rfl rfl hd.1 ?_
        have hd := hd.2
        refine xj_E.adv 2 (pc' := (if xj_cmp .eq (S 2 a.toNatClampNeg) 1 = true then 47 else 33)) (ls' := [(0, .ref 1), (1, .int a), (2, .int b)]) (st' := []) (w' := (SH, S, T)) rfl ?_
        refine xj_E.b_eq (fun q => ?_) (fun q => ?_)
        · have hd := hd.1 q
          have h := fun v e => h v (Eq.trans e (if_pos q).symm)
          refine xj_E.adv 2 (pc' := 52) (ls' := [(0, .ref 1), (1, .int a), (2, .int b)]) (st' := [.int 1]) (w' := (SH, S, T)) rfl ?_
          exact xj_E.ret rfl rfl rfl rfl (h _ rfl)
        · have hd := hd.2 q
          have h := fun v e => h v (Eq.trans e (if_neg q).symm)
          refine xj_E.adv 3 (pc' := 38) (ls' := [(0, .ref 1), (1, .int a), (2, .int b)]) (st' := [.int a, .ref 2]) (w' := (SH, S, T)) rfl ?_
          refine xj_E.iald rfl rfl hd.1 ?_
          have hd := hd.2
          refine xj_E.adv 2 (pc' := (if xj_cmp .ne (S 2 a.toNatClampNeg) 2 = true then 51 else 43)) (ls' := [(0, .ref 1), (1, .int a), (2, .int b)]) (st' := []) (w' := (SH, S, T)) rfl ?_
          refine xj_E.b_ne (fun q => ?_) (fun q => ?_)
          · have hd := hd.1 q
            have h := fun v e => h v (Eq.trans e (if_pos q).symm)
            refine xj_E.adv 1 (pc' := 52) (ls' := [(0, .ref 1), (1, .int a), (2, .int b)]) (st' := [.int 0]) (w' := (SH, S, T)) rfl ?_
            exact xj_E.ret rfl rfl rfl rfl (h _ rfl)
          · have hd := hd.2 q
            have h := fun v e => h v (Eq.trans e (if_neg q).symm)
            refine xj_E.adv 2 (pc' := (if xj_cmp .ne b 0 = true then 51 else 47)) (ls' := [(0, .ref 1), (1, .int a), (2, .int b)]) (st' := []) (w' := (SH, S, T)) rfl ?_
            refine xj_E.b_ne (fun q => ?_) (fun q => ?_)
            · have hd := hd.1 q
              have h := fun v e => h v (Eq.trans e (if_pos q).symm)
              refine xj_E.adv 1 (pc' := 52) (ls' := [(0, .ref 1), (1, .int a), (2, .int b)]) (st' := [.int 0]) (w' := (SH, S, T)) rfl ?_
              exact xj_E.ret rfl rfl rfl rfl (h _ rfl)
            · have hd := hd.2 q
              have h := fun v e => h v (Eq.trans e (if_neg q).symm)
              refine xj_E.adv 2 (pc' := 52) (ls' := [(0, .ref 1), (1, .int a), (2, .int b)]) (st' := [.int 1]) (w' := (SH, S, T)) rfl ?_
              exact xj_E.ret rfl rfl rfl rfl (h _ rfl)
    · have hd := hd.2 q
      have h := fun v e => h v (Eq.trans e (if_neg q).symm)
      refine xj_E.adv 1 (pc' := 13) (ls' := [(0, .ref 1), (1, .int a), (2, .int b)]) (st' := [.int 0]) (w' := (SH, S, T)) rfl ?_
      exact xj_E.ret rfl rfl rfl rfl (h _ rfl)
set_option maxRecDepth 100000 in
theorem ok_p_hasSentry {L d : Nat} {xs : Nat → Int32} {S : Nat → Nat → Int32} {T : Nat → Nat → Int64} {P : (Option Value ⊕ Nat) → xj_W → Nat → Nat → Prop} {a : Int32} (hd : d_p_hasSentry S a) (h : ∀ v, v = r_p_hasSentry S a → P (.inl (some (.int v))) (SH, S, T) 0 0) : xj_E (xX L xs) d 19 0 [(0, .ref 1), (1, .int a)] [] (SH, S, T) P := by
  unfold d_p_hasSentry at hd
  unfold r_p_hasSentry at h
  refine xj_E.adv 2 (pc' := (if xj_cmp .lt a 0 = true then 16 else 4)) (ls' := [(0, .ref 1), (1, .int a)]) (st' := []) (w' := (SH, S, T)) rfl ?_
  refine xj_E.b_lt (fun q => ?_) (fun q => ?_)
  · have hd := hd.1 q
    have h := fun v e => h v (Eq.trans e (if_pos q).symm)
    refine xj_E.adv 1 (pc' := 17) (ls' := [(0, .ref 1), (1, .int a)]) (st' := [.int 0]) (w' := (SH, S, T)) rfl ?_
    exact xj_E.ret rfl rfl rfl rfl (h _ rfl)
  · have hd := hd.2 q
    have h := fun v e => h v (Eq.trans e (if_neg q).symm)
    refine xj_E.adv 4 (pc' := (if xj_cmp .ge a (S 1 5) = true then 16 else 12)) (ls' := [(0, .ref 1), (1, .int a)]) (st' := []) (w' := (SH, S, T)) rfl ?_
    refine xj_E.b_ge (fun q => ?_) (fun q => ?_)
    · have hd := hd.1 q
      have h := fun v e => h v (Eq.trans e (if_pos q).symm)
      refine xj_E.adv 1 (pc' := 17) (ls' := [(0, .ref 1), (1, .int a)]) (st' := [.int 0]) (w' := (SH, S, T)) rfl ?_
      exact xj_E.ret rfl rfl rfl rfl (h _ rfl)
    · have hd := hd.2 q
      have h := fun v e => h v (Eq.trans e (if_neg q).symm)
      refine xj_E.adv 2 (pc' := 17) (ls' := [(0, .ref 1), (1, .int a)]) (st' := [.int 1]) (w' := (SH, S, T)) rfl ?_
      exact xj_E.ret rfl rfl rfl rfl (h _ rfl)
set_option maxRecDepth 100000 in
theorem ok_p_hasAllParts {L d : Nat} {xs : Nat → Int32} {S : Nat → Nat → Int32} {T : Nat → Nat → Int64} {P : (Option Value ⊕ Nat) → xj_W → Nat → Nat → Prop} {a : Int32} (hd : d_p_hasAllParts S a) (h : ∀ v, v = r_p_hasAllParts S a → P (.inl (some (.int v))) (SH, S, T) 0 0) : xj_E (xX L xs) (d + 1) 20 0 [(0, .ref 1), (1, .int a)] [] (SH, S, T) P := by
  unfold d_p_hasAllParts at hd
  unfold r_p_hasAllParts at h
  refine xj_E.adv 2 (pc' := 2) (ls' := [(0, .ref 1), (1, .int a)]) (st' := [.int a, .ref 1]) (w' := (SH, S, T)) rfl ?_
  refine xj_E.calli (d := d) (S := SH) rfl rfl rfl rfl rfl (ok_p_hasSentry hd.1 ?_)
  intro v e
  subst e
  refine ⟨_, S, T, rfl, rfl, rfl, rfl, ?_⟩
  have hd := hd.2
  refine xj_E.adv 1 (pc' := (if xj_cmp .eq (r_p_hasSentry S a) 0 = true then 22 else 8)) (ls' := [(0, .ref 1), (1, .int a)]) (st' := []) (w' := (SH, S, T)) rfl ?_
  refine xj_E.b_eq (fun q => ?_) (fun q => ?_)
  · have hd := hd.1 q
    have h := fun v e => h v (Eq.trans e (if_pos q).symm)
    refine xj_E.adv 1 (pc' := 23) (ls' := [(0, .ref 1), (1, .int a)]) (st' := [.int 0]) (w' := (SH, S, T)) rfl ?_
    exact xj_E.ret rfl rfl rfl rfl (h _ rfl)
  · have hd := hd.2 q
    have h := fun v e => h v (Eq.trans e (if_neg q).symm)
    refine xj_E.adv 3 (pc' := 13) (ls' := [(0, .ref 1), (1, .int a)]) (st' := [.int a, .ref 8]) (w' := (SH, S, T)) rfl ?_
    refine xj_E.iald rfl rfl hd.1 ?_
    have hd := hd.2
    refine xj_E.adv 2 (pc' := (if xj_cmp .ne (S 8 a.toNatClampNeg) 2 = true then 22 else 18)) (ls' := [(0, .ref 1), (1, .int a)]) (st' := []) (w' := (SH, S, T)) rfl ?_
    refine xj_E.b_ne (fun q => ?_) (fun q => ?_)
    · have hd := hd.1 q
      have h := fun v e => h v (Eq.trans e (if_pos q).symm)
      refine xj_E.adv 1 (pc' := 23) (ls' := [(0, .ref 1), (1, .int a)]) (st' := [.int 0]) (w' := (SH, S, T)) rfl ?_
      exact xj_E.ret rfl rfl rfl rfl (h _ rfl)
    · have hd := hd.2 q
      have h := fun v e => h v (Eq.trans e (if_neg q).symm)
      refine xj_E.adv 2 (pc' := 23) (ls' := [(0, .ref 1), (1, .int a)]) (st' := [.int 1]) (w' := (SH, S, T)) rfl ?_
      exact xj_E.ret rfl rfl rfl rfl (h _ rfl)
set_option maxRecDepth 100000 in
theorem okl_p_partsHearing {L d : Nat} {xs : Nat → Int32} {S : Nat → Nat → Int32} {T : Nat → Nat → Int64} {P : (Option Value ⊕ Nat) → xj_W → Nat → Nat → Prop} (n : Nat) : (∀ u1 u2 u3 u4, dl0_p_partsHearing n S u1 u2 u3 u4 → (∀ v, v = rl0_p_partsHearing n S u1 u2 u3 u4 → P (.inl (some (.int v))) (SH, S, T) 0 0) → xj_E (xX L xs) (d + 1) 24 5 [(0, .ref 1), (1, .int u1), (2, .int u2), (3, .int u3), (4, .int u4)] [] (SH, S, T) P) ∧ (∀ u1 u2 u3 u4 u5, dl1_p_partsHearing n S u1 u2 u3 u4 u5 → (∀ v, v = rl1_p_partsHearing n S u1 u2 u3 u4 u5 → P (.inl (some (.int v))) (SH, S, T) 0 0) → xj_E (xX L xs) (d + 1) 24 17 [(0, .ref 1), (1, .int u1), (2, .int u2), (3, .int u3), (4, .int u4), (5, .int u5)] [] (SH, S, T) P) := by
  induction n with
  | zero =>
    exact ⟨fun _ _ _ _ hd _ => hd.elim, fun _ _ _ _ _ hd _ => hd.elim⟩
  | succ n ih =>
    refine ⟨?_, ?_⟩
    · intro u1 u2 u3 u4 hd h
      refine xj_E.adv 4 (pc' := (if xj_cmp .ge u4 (S 1 5) = true then 82 else 14)) (ls' := [(0, .ref 1), (1, .int u1), (2, .int u2), (3, .int u3), (4, .int u4)]) (st' := []) (w' := (SH, S, T)) rfl ?_
      refine xj_E.b_ge (fun q => ?_) (fun q => ?_)
      · have hd := hd.1 q
        have h := fun v e => h v (Eq.trans e (if_pos q).symm)
        refine xj_E.adv 1 (pc' := 83) (ls' := [(0, .ref 1), (1, .int u1), (2, .int u2), (3, .int u3), (4, .int u4)]) (st' := [.int u3]) (w' := (SH, S, T)) rfl ?_
        exact xj_E.ret rfl rfl rfl rfl (h _ rfl)
      · have hd := hd.2 q
        have h := fun v e => h v (Eq.trans e (if_neg q).symm)
        refine xj_E.adv 2 (pc' := 17) (ls' := [(5, .int 0), (0, .ref 1), (1, .int u1), (2, .int u2), (3, .int u3), (4, .int u4)]) (st' := []) (w' := (SH, S, T)) rfl ?_
        refine xj_E.loc [0, 1, 2, 3, 4, 5] xhth rfl (show xj_E (xX L xs) (d + 1) 24 17 [(0, .ref 1), (1, .int u1), (2, .int u2), (3, .int u3), (4, .int u4), (5, .int 0)] [] (SH, S, T) P from ?_)
        exact (ih.2) _ _ _ _ _ hd h
    · intro u1 u2 u3 u4 u5 hd h
      refine xj_E.adv 4 (pc' := 25) (ls' := [(0, .ref 1), (1, .int u1), (2, .int u2), (3, .int u3), (4, .int u4), (5, .int u5)]) (st' := [.int u4, .ref 8, .int u5]) (w' := (SH, S, T)) rfl ?_
      refine xj_E.iald rfl rfl hd.1 ?_
      have hd := hd.2
      refine xj_E.adv 1 (pc' := (if xj_cmp .ge u5 (S 8 u4.toNatClampNeg) = true then 76 else 29)) (ls' := [(0, .ref 1), (1, .int u1), (2, .int u2), (3, .int u3), (4, .int u4), (5, .int u5)]) (st' := []) (w' := (SH, S, T)) rfl ?_
      refine xj_E.b_ge (fun q => ?_) (fun q => ?_)
      · have hd := hd.1 q
        have h := fun v e => h v (Eq.trans e (if_pos q).symm)
        refine xj_E.adv 2 (pc' := 5) (ls' := [(4, .int (u4 + 1)), (0, .ref 1), (1, .int u1), (2, .int u2), (3, .int u3), (5, .int u5)]) (st' := []) (w' := (SH, S, T)) rfl ?_
        refine xj_E.loc [0, 1, 2, 3, 4] xhth rfl (show xj_E (xX L xs) (d + 1) 24 5 [(0, .ref 1), (1, .int u1), (2, .int u2), (3, .int u3), (4, .int (u4 + 1))] [] (SH, S, T) P from ?_)
        exact (ih.1) _ _ _ _ hd h
      · have hd := hd.2 q
        have h := fun v e => h v (Eq.trans e (if_neg q).symm)
        refine xj_E.adv 9 (pc' := 44) (ls' := [(6, .int ((u4 * 2) + u5)), (0, .ref 1), (1, .int u1), (2, .int u2), (3, .int u3), (4, .int u4), (5, .int u5)]) (st' := [.int ((u4 * 2) + u5), .ref 9]) (w' := (SH, S, T)) rfl ?_
        refine xj_E.iald rfl rfl hd.1 ?_
        have hd := hd.2
        refine xj_E.adv 2 (pc' := (if xj_cmp .ne (S 9 ((u4 * 2) + u5).toNatClampNeg) u1 = true then 70 else 49)) (ls' := [(6, .int ((u4 * 2) + u5)), (0, .ref 1), (1, .int u1), (2, .int u2), (3, .int u3), (4, .int u4), (5, .int u5)]) (st' := []) (w' := (SH, S, T)) rfl ?_
        refine xj_E.b_ne (fun q => ?_) (fun q => ?_)
        · have hd := hd.1 q
          have h := fun v e => h v (Eq.trans e (if_pos q).symm)
          refine xj_E.adv 2 (pc' := 17) (ls' := [(5, .int (u5 + 1)), (6, .int ((u4 * 2) + u5)), (0, .ref 1), (1, .int u1), (2, .int u2), (3, .int u3), (4, .int u4)]) (st' := []) (w' := (SH, S, T)) rfl ?_
          refine xj_E.loc [0, 1, 2, 3, 4, 5] xhth rfl (show xj_E (xX L xs) (d + 1) 24 17 [(0, .ref 1), (1, .int u1), (2, .int u2), (3, .int u3), (4, .int u4), (5, .int (u5 + 1))] [] (SH, S, T) P from ?_)
          exact (ih.2) _ _ _ _ _ hd h
        · have hd := hd.2 q
          have h := fun v e => h v (Eq.trans e (if_neg q).symm)
          refine xj_E.adv 3 (pc' := 55) (ls' := [(6, .int ((u4 * 2) + u5)), (0, .ref 1), (1, .int u1), (2, .int u2), (3, .int u3), (4, .int u4), (5, .int u5)]) (st' := [.int ((u4 * 2) + u5), .ref 10]) (w' := (SH, S, T)) rfl ?_
          refine xj_E.iald rfl rfl hd.1 ?_
          have hd := hd.2
          refine xj_E.adv 2 (pc' := (if xj_cmp .ne (S 10 ((u4 * 2) + u5).toNatClampNeg) u2 = true then 70 else 60)) (ls' := [(6, .int ((u4 * 2) + u5)), (0, .ref 1), (1, .int u1), (2, .int u2), (3, .int u3), (4, .int u4), (5, .int u5)]) (st' := []) (w' := (SH, S, T)) rfl ?_
          refine xj_E.b_ne (fun q => ?_) (fun q => ?_)
          · have hd := hd.1 q
            have h := fun v e => h v (Eq.trans e (if_pos q).symm)
            refine xj_E.adv 2 (pc' := 17) (ls' := [(5, .int (u5 + 1)), (6, .int ((u4 * 2) + u5)), (0, .ref 1), (1, .int u1), (2, .int u2), (3, .int u3), (4, .int u4)]) (st' := []) (w' := (SH, S, T)) rfl ?_
            refine xj_E.loc [0, 1, 2, 3, 4, 5] xhth rfl (show xj_E (xX L xs) (d + 1) 24 17 [(0, .ref 1), (1, .int u1), (2, .int u2), (3, .int u3), (4, .int u4), (5, .int (u5 + 1))] [] (SH, S, T) P from ?_)
            exact (ih.2) _ _ _ _ _ hd h
          · have hd := hd.2 q
            have h := fun v e => h v (Eq.trans e (if_neg q).symm)
            refine xj_E.adv 3 (pc' := 65) (ls' := [(6, .int ((u4 * 2) + u5)), (0, .ref 1), (1, .int u1), (2, .int u2), (3, .int u3), (4, .int u4), (5, .int u5)]) (st' := [.int u5, .int u4, .int u3]) (w' := (SH, S, T)) rfl ?_
            refine xj_E.calli (d := d) (S := SH) rfl rfl rfl rfl rfl (ok_p_partBit hd.1 ?_)
            intro v e
            subst e
            refine ⟨_, S, T, rfl, rfl, rfl, rfl, ?_⟩
            have hd := hd.2
            refine xj_E.adv 4 (pc' := 17) (ls' := [(5, .int (u5 + 1)), (3, .int (u3 ||| (r_p_partBit S u4 u5))), (6, .int ((u4 * 2) + u5)), (0, .ref 1), (1, .int u1), (2, .int u2), (4, .int u4)]) (st' := []) (w' := (SH, S, T)) rfl ?_
            refine xj_E.loc [0, 1, 2, 3, 4, 5] xhth rfl (show xj_E (xX L xs) (d + 1) 24 17 [(0, .ref 1), (1, .int u1), (2, .int u2), (3, .int (u3 ||| (r_p_partBit S u4 u5))), (4, .int u4), (5, .int (u5 + 1))] [] (SH, S, T) P from ?_)
            exact (ih.2) _ _ _ _ _ hd h
set_option maxRecDepth 100000 in
theorem ok_p_partsHearing {L d : Nat} {xs : Nat → Int32} {S : Nat → Nat → Int32} {T : Nat → Nat → Int64} {P : (Option Value ⊕ Nat) → xj_W → Nat → Nat → Prop} {a b : Int32} (hd : d_p_partsHearing S a b) (h : ∀ v, v = r_p_partsHearing S a b → P (.inl (some (.int v))) (SH, S, T) 0 0) : xj_E (xX L xs) (d + 1) 24 0 [(0, .ref 1), (1, .int a), (2, .int b)] [] (SH, S, T) P := by
  unfold d_p_partsHearing at hd
  unfold r_p_partsHearing at h
  refine xj_E.adv 4 (pc' := 5) (ls' := [(4, .int 0), (3, .int 0), (0, .ref 1), (1, .int a), (2, .int b)]) (st' := []) (w' := (SH, S, T)) rfl ?_
  refine xj_E.loc [0, 1, 2, 3, 4] xhth rfl (show xj_E (xX L xs) (d + 1) 24 5 [(0, .ref 1), (1, .int a), (2, .int b), (3, .int 0), (4, .int 0)] [] (SH, S, T) P from ?_)
  exact (okl_p_partsHearing 200).1 _ _ _ _ hd h
set_option maxRecDepth 100000 in
theorem ok_p_ifPartHolds {L d : Nat} {xs : Nat → Int32} {S : Nat → Nat → Int32} {T : Nat → Nat → Int64} {P : (Option Value ⊕ Nat) → xj_W → Nat → Nat → Prop} {a : Int32} (hd : d_p_ifPartHolds S a) (h : ∀ v, v = r_p_ifPartHolds S a → P (.inl (some (.int v))) (SH, S, T) 0 0) : xj_E (xX L xs) d 26 0 [(0, .ref 1), (1, .int a), (2, .ref 20)] [] (SH, S, T) P := by
  unfold d_p_ifPartHolds at hd
  unfold r_p_ifPartHolds at h
  refine xj_E.adv 4 (pc' := 6) (ls' := [(0, .ref 1), (1, .int a), (2, .ref 20)]) (st' := [.int a, .ref 12, .ref 20]) (w' := (SH, S, T)) rfl ?_
  refine xj_E.iald rfl rfl hd.1 ?_
  have hd := hd.2
  refine xj_E.iald rfl rfl hd.1 ?_
  have hd := hd.2
  refine xj_E.adv 4 (pc' := 14) (ls' := [(3, .int (S 20 (S 12 a.toNatClampNeg).toNatClampNeg)), (0, .ref 1), (1, .int a), (2, .ref 20)]) (st' := [.int a, .ref 11]) (w' := (SH, S, T)) rfl ?_
  refine xj_E.iald rfl rfl hd.1 ?_
  have hd := hd.2
  by_cases q0 : (S 11 a.toNatClampNeg) = 0
  · have hd := hd.1 q0
    have h := fun v e => h v (Eq.trans e (if_pos q0).symm)
    refine xj_E.swk q0 ?_
    refine xj_E.adv 1 (pc' := 40) (ls' := [(3, .int (S 20 (S 12 a.toNatClampNeg).toNatClampNeg)), (0, .ref 1), (1, .int a), (2, .ref 20)]) (st' := []) (w' := (SH, S, T)) rfl ?_
    refine xj_E.adv 4 (pc' := 46) (ls' := [(3, .int (S 20 (S 12 a.toNatClampNeg).toNatClampNeg)), (0, .ref 1), (1, .int a), (2, .ref 20)]) (st' := [.int a, .ref 13, .int (S 20 (S 12 a.toNatClampNeg).toNatClampNeg)]) (w' := (SH, S, T)) rfl ?_
    refine xj_E.iald rfl rfl hd.1 ?_
    have hd := hd.2
    refine xj_E.adv 1 (pc' := (if xj_cmp .ge (S 20 (S 12 a.toNatClampNeg).toNatClampNeg) (S 13 a.toNatClampNeg) = true then 54 else 50)) (ls' := [(3, .int (S 20 (S 12 a.toNatClampNeg).toNatClampNeg)), (0, .ref 1), (1, .int a), (2, .ref 20)]) (st' := []) (w' := (SH, S, T)) rfl ?_
    refine xj_E.b_ge (fun q => ?_) (fun q => ?_)
    · have hd := hd.1 q
      have h := fun v e => h v (Eq.trans e (if_pos q).symm)
      refine xj_E.adv 1 (pc' := 55) (ls' := [(3, .int (S 20 (S 12 a.toNatClampNeg).toNatClampNeg)), (0, .ref 1), (1, .int a), (2, .ref 20)]) (st' := [.int 0]) (w' := (SH, S, T)) rfl ?_
      exact xj_E.ret rfl rfl rfl rfl (h _ rfl)
    · have hd := hd.2 q
      have h := fun v e => h v (Eq.trans e (if_neg q).symm)
      refine xj_E.adv 2 (pc' := 55) (ls' := [(3, .int (S 20 (S 12 a.toNatClampNeg).toNatClampNeg)), (0, .ref 1), (1, .int a), (2, .ref 20)]) (st' := [.int 1]) (w' := (SH, S, T)) rfl ?_
      exact xj_E.ret rfl rfl rfl rfl (h _ rfl)
  · have hd := hd.2 q0
    have h := fun v e => h v (Eq.trans e (if_neg q0).symm)
    by_cases q1 : (S 11 a.toNatClampNeg) = 1
    · have hd := hd.1 q1
      have h := fun v e => h v (Eq.trans e (if_pos q1).symm)
      refine xj_E.swk q1 ?_
      refine xj_E.adv 1 (pc' := 56) (ls' := [(3, .int (S 20 (S 12 a.toNatClampNeg).toNatClampNeg)), (0, .ref 1), (1, .int a), (2, .ref 20)]) (st' := []) (w' := (SH, S, T)) rfl ?_
      refine xj_E.adv 4 (pc' := 62) (ls' := [(3, .int (S 20 (S 12 a.toNatClampNeg).toNatClampNeg)), (0, .ref 1), (1, .int a), (2, .ref 20)]) (st' := [.int a, .ref 13, .int (S 20 (S 12 a.toNatClampNeg).toNatClampNeg)]) (w' := (SH, S, T)) rfl ?_
      refine xj_E.iald rfl rfl hd.1 ?_
      have hd := hd.2
      refine xj_E.adv 1 (pc' := (if xj_cmp .ne (S 20 (S 12 a.toNatClampNeg).toNatClampNeg) (S 13 a.toNatClampNeg) = true then 70 else 66)) (ls' := [(3, .int (S 20 (S 12 a.toNatClampNeg).toNatClampNeg)), (0, .ref 1), (1, .int a), (2, .ref 20)]) (st' := []) (w' := (SH, S, T)) rfl ?_
      refine xj_E.b_ne (fun q => ?_) (fun q => ?_)
      · have hd := hd.1 q
        have h := fun v e => h v (Eq.trans e (if_pos q).symm)
        refine xj_E.adv 1 (pc' := 71) (ls' := [(3, .int (S 20 (S 12 a.toNatClampNeg).toNatClampNeg)), (0, .ref 1), (1, .int a), (2, .ref 20)]) (st' := [.int 0]) (w' := (SH, S, T)) rfl ?_
        exact xj_E.ret rfl rfl rfl rfl (h _ rfl)
      · have hd := hd.2 q
        have h := fun v e => h v (Eq.trans e (if_neg q).symm)
        refine xj_E.adv 2 (pc' := 71) (ls' := [(3, .int (S 20 (S 12 a.toNatClampNeg).toNatClampNeg)), (0, .ref 1), (1, .int a), (2, .ref 20)]) (st' := [.int 1]) (w' := (SH, S, T)) rfl ?_
        exact xj_E.ret rfl rfl rfl rfl (h _ rfl)
    · have hd := hd.2 q1
      have h := fun v e => h v (Eq.trans e (if_neg q1).symm)
      by_cases q2 : (S 11 a.toNatClampNeg) = 2
      · have hd := hd.1 q2
        have h := fun v e => h v (Eq.trans e (if_pos q2).symm)
        refine xj_E.swk q2 ?_
        refine xj_E.adv 1 (pc' := 72) (ls' := [(3, .int (S 20 (S 12 a.toNatClampNeg).toNatClampNeg)), (0, .ref 1), (1, .int a), (2, .ref 20)]) (st' := []) (w' := (SH, S, T)) rfl ?_
        refine xj_E.adv 4 (pc' := 78) (ls' := [(3, .int (S 20 (S 12 a.toNatClampNeg).toNatClampNeg)), (0, .ref 1), (1, .int a), (2, .ref 20)]) (st' := [.int a, .ref 13, .int (S 20 (S 12 a.toNatClampNeg).toNatClampNeg)]) (w' := (SH, S, T)) rfl ?_
        refine xj_E.iald rfl rfl hd.1 ?_
        have hd := hd.2
        refine xj_E.adv 1 (pc' := (if xj_cmp .le (S 20 (S 12 a.toNatClampNeg).toNatClampNeg) (S 13 a.toNatClampNeg) = true then 86 else 82)) (ls' := [(3, .int (S 20 (S 12 a.toNatClampNeg).toNatClampNeg)), (0, .ref 1), (1, .int a), (2, .ref 20)]) (st' := []) (w' := (SH, S, T)) rfl ?_
        refine xj_E.b_le (fun q => ?_) (fun q => ?_)
        · have hd := hd.1 q
          have h := fun v e => h v (Eq.trans e (if_pos q).symm)
          refine xj_E.adv 1 (pc' := 87) (ls' := [(3, .int (S 20 (S 12 a.toNatClampNeg).toNatClampNeg)), (0, .ref 1), (1, .int a), (2, .ref 20)]) (st' := [.int 0]) (w' := (SH, S, T)) rfl ?_
          exact xj_E.ret rfl rfl rfl rfl (h _ rfl)
        · have hd := hd.2 q
          have h := fun v e => h v (Eq.trans e (if_neg q).symm)
          refine xj_E.adv 2 (pc' := 87) (ls' := [(3, .int (S 20 (S 12 a.toNatClampNeg).toNatClampNeg)), (0, .ref 1), (1, .int a), (2, .ref 20)]) (st' := [.int 1]) (w' := (SH, S, T)) rfl ?_
          exact xj_E.ret rfl rfl rfl rfl (h _ rfl)
      · have hd := hd.2 q2
        have h := fun v e => h v (Eq.trans e (if_neg q2).symm)
        refine xj_E.swt rfl (xj_swd (fun z z1 z2 => ?_)) rfl ?_
        · have hz : z = 0 ∨ z = 1 ∨ z = 2 := by omega
          rcases hz with rfl | rfl | rfl
          · exact fun e => q0 (e.trans (by decide))
          · exact fun e => q1 (e.trans (by decide))
          · exact fun e => q2 (e.trans (by decide))
        refine xj_E.adv 1 (pc' := 89) (ls' := [(3, .int (S 20 (S 12 a.toNatClampNeg).toNatClampNeg)), (0, .ref 1), (1, .int a), (2, .ref 20)]) (st' := [.int 1]) (w' := (SH, S, T)) rfl ?_
        exact xj_E.ret rfl rfl rfl rfl (h _ rfl)
set_option maxRecDepth 100000 in
theorem ok_c_instances {L d : Nat} {xs : Nat → Int32} {S : Nat → Nat → Int32} {T : Nat → Nat → Int64} {P : (Option Value ⊕ Nat) → xj_W → Nat → Nat → Prop} (hd : d_c_instances S ) (h : ∀ v, v = r_c_instances S  → P (.inl (some (.int v))) (SH, S, T) 0 0) : xj_E (xX L xs) d 36 0 [(0, .ref 0)] [] (SH, S, T) P := by
  unfold d_c_instances at hd
  unfold r_c_instances at h
  refine xj_E.adv 3 (pc' := 7) (ls' := [(0, .ref 0)]) (st' := [.int (S 14 1)]) (w' := (SH, S, T)) rfl ?_
  exact xj_E.ret rfl rfl rfl rfl (h _ rfl)
set_option maxRecDepth 100000 in
theorem ok_c_instance {L d : Nat} {xs : Nat → Int32} {S : Nat → Nat → Int32} {T : Nat → Nat → Int64} {P : (Option Value ⊕ Nat) → xj_W → Nat → Nat → Prop} {a b : Int32} (hd : d_c_instance S a b) (h : ∀ v, v = r_c_instance S a b → P (.inl (some (.int v))) (SH, S, T) 0 0) : xj_E (xX L xs) (d + 1) 37 0 [(0, .ref 0), (1, .int a), (2, .int b)] [] (SH, S, T) P := by
  unfold d_c_instance at hd
  unfold r_c_instance at h
  refine xj_E.adv 3 (pc' := 5) (ls' := [(0, .ref 0), (1, .int a), (2, .int b)]) (st' := [.int a, .ref 14]) (w' := (SH, S, T)) rfl ?_
  refine xj_E.calli (d := d) (S := SH) rfl rfl rfl rfl rfl (ok_l_has hd.1 ?_)
  intro v e
  subst e
  refine ⟨_, S, T, rfl, rfl, rfl, rfl, ?_⟩
  have hd := hd.2
  refine xj_E.adv 1 (pc' := (if xj_cmp .ne (r_l_has S a) 0 = true then 13 else 11)) (ls' := [(0, .ref 0), (1, .int a), (2, .int b)]) (st' := []) (w' := (SH, S, T)) rfl ?_
  refine xj_E.b_ne (fun q => ?_) (fun q => ?_)
  · have hd := hd.1 q
    have h := fun v e => h v (Eq.trans e (if_pos q).symm)
    refine xj_E.adv 1 (pc' := 14) (ls' := [(0, .ref 0), (1, .int a), (2, .int b)]) (st' := [.int b]) (w' := (SH, S, T)) rfl ?_
    by_cases q0 : b = 0
    · have hd := hd.1 q0
      have h := fun v e => h v (Eq.trans e (if_pos q0).symm)
      refine xj_E.swk q0 ?_
      refine xj_E.adv 1 (pc' := 44) (ls' := [(0, .ref 0), (1, .int a), (2, .int b)]) (st' := []) (w' := (SH, S, T)) rfl ?_
      refine xj_E.adv 4 (pc' := 52) (ls' := [(0, .ref 0), (1, .int a), (2, .int b)]) (st' := [.int a, .ref 15]) (w' := (SH, S, T)) rfl ?_
      refine xj_E.iald rfl rfl hd.1 ?_
      have hd := hd.2
      exact xj_E.ret rfl rfl rfl rfl (h _ rfl)
    · have hd := hd.2 q0
      have h := fun v e => h v (Eq.trans e (if_neg q0).symm)
      by_cases q1 : b = 1
      · have hd := hd.1 q1
        have h := fun v e => h v (Eq.trans e (if_pos q1).symm)
        refine xj_E.swk q1 ?_
        refine xj_E.adv 1 (pc' := 54) (ls' := [(0, .ref 0), (1, .int a), (2, .int b)]) (st' := []) (w' := (SH, S, T)) rfl ?_
        refine xj_E.adv 4 (pc' := 62) (ls' := [(0, .ref 0), (1, .int a), (2, .int b)]) (st' := [.int a, .ref 16]) (w' := (SH, S, T)) rfl ?_
        refine xj_E.iald rfl rfl hd.1 ?_
        have hd := hd.2
        exact xj_E.ret rfl rfl rfl rfl (h _ rfl)
      · have hd := hd.2 q1
        have h := fun v e => h v (Eq.trans e (if_neg q1).symm)
        by_cases q2 : b = 2
        · have hd := hd.1 q2
          have h := fun v e => h v (Eq.trans e (if_pos q2).symm)
          refine xj_E.swk q2 ?_
          refine xj_E.adv 1 (pc' := 64) (ls' := [(0, .ref 0), (1, .int a), (2, .int b)]) (st' := []) (w' := (SH, S, T)) rfl ?_
          refine xj_E.adv 4 (pc' := 72) (ls' := [(0, .ref 0), (1, .int a), (2, .int b)]) (st' := [.int a, .ref 17]) (w' := (SH, S, T)) rfl ?_
          refine xj_E.iald rfl rfl hd.1 ?_
          have hd := hd.2
          exact xj_E.ret rfl rfl rfl rfl (h _ rfl)
        · have hd := hd.2 q2
          have h := fun v e => h v (Eq.trans e (if_neg q2).symm)
          by_cases q3 : b = 3
          · have hd := hd.1 q3
            have h := fun v e => h v (Eq.trans e (if_pos q3).symm)
            refine xj_E.swk q3 ?_
            refine xj_E.adv 1 (pc' := 74) (ls' := [(0, .ref 0), (1, .int a), (2, .int b)]) (st' := []) (w' := (SH, S, T)) rfl ?_
            refine xj_E.adv 4 (pc' := 82) (ls' := [(0, .ref 0), (1, .int a), (2, .int b)]) (st' := [.int a, .ref 18]) (w' := (SH, S, T)) rfl ?_
            refine xj_E.iald rfl rfl hd.1 ?_
            have hd := hd.2
            exact xj_E.ret rfl rfl rfl rfl (h _ rfl)
          · have hd := hd.2 q3
            have h := fun v e => h v (Eq.trans e (if_neg q3).symm)
            refine xj_E.swt rfl (xj_swd (fun z z1 z2 => ?_)) rfl ?_
            · have hz : z = 0 ∨ z = 1 ∨ z = 2 ∨ z = 3 := by omega
              rcases hz with rfl | rfl | rfl | rfl
              · exact fun e => q0 (e.trans (by decide))
              · exact fun e => q1 (e.trans (by decide))
              · exact fun e => q2 (e.trans (by decide))
              · exact fun e => q3 (e.trans (by decide))
            refine xj_E.adv 1 (pc' := 85) (ls' := [(0, .ref 0), (1, .int a), (2, .int b)]) (st' := [.int (-1)]) (w' := (SH, S, T)) rfl ?_
            exact xj_E.ret rfl rfl rfl rfl (h _ rfl)
  · have hd := hd.2 q
    have h := fun v e => h v (Eq.trans e (if_neg q).symm)
    refine xj_E.adv 1 (pc' := 12) (ls' := [(0, .ref 0), (1, .int a), (2, .int b)]) (st' := [.int (-1)]) (w' := (SH, S, T)) rfl ?_
    exact xj_E.ret rfl rfl rfl rfl (h _ rfl)
set_option maxRecDepth 100000 in
theorem ok_c_marked {L d : Nat} {xs : Nat → Int32} {S : Nat → Nat → Int32} {T : Nat → Nat → Int64} {P : (Option Value ⊕ Nat) → xj_W → Nat → Nat → Prop} {a b c : Int32} (hd : d_c_marked S a b c) (h : ∀ v, v = r_c_marked S a b c → P (.inl (some (.int v))) (SH, S, T) 0 0) : xj_E (xX L xs) (d + 1) 38 0 [(0, .ref 0), (1, .int a), (2, .int b), (3, .int c)] [] (SH, S, T) P := by
  unfold d_c_marked at hd
  unfold r_c_marked at h
  refine xj_E.adv 3 (pc' := 5) (ls' := [(0, .ref 0), (1, .int a), (2, .int b), (3, .int c)]) (st' := [.int a, .ref 14]) (w' := (SH, S, T)) rfl ?_
  refine xj_E.calli (d := d) (S := SH) rfl rfl rfl rfl rfl (ok_l_has hd.1 ?_)
  intro v e
  subst e
  refine ⟨_, S, T, rfl, rfl, rfl, rfl, ?_⟩
  have hd := hd.2
  refine xj_E.adv 1 (pc' := (if xj_cmp .eq (r_l_has S a) 0 = true then 31 else 11)) (ls' := [(0, .ref 0), (1, .int a), (2, .int b), (3, .int c)]) (st' := []) (w' := (SH, S, T)) rfl ?_
  refine xj_E.b_eq (fun q => ?_) (fun q => ?_)
  · have hd := hd.1 q
    have h := fun v e => h v (Eq.trans e (if_pos q).symm)
    refine xj_E.adv 1 (pc' := 32) (ls' := [(0, .ref 0), (1, .int a), (2, .int b), (3, .int c)]) (st' := [.int 0]) (w' := (SH, S, T)) rfl ?_
    exact xj_E.ret rfl rfl rfl rfl (h _ rfl)
  · have hd := hd.2 q
    have h := fun v e => h v (Eq.trans e (if_neg q).symm)
    refine xj_E.adv 3 (pc' := 16) (ls' := [(0, .ref 0), (1, .int a), (2, .int b), (3, .int c)]) (st' := [.int b, .ref 1]) (w' := (SH, S, T)) rfl ?_
    refine xj_E.calli (d := d) (S := SH) rfl rfl rfl rfl rfl (ok_p_hasSentry hd.1 ?_)
    intro v e
    subst e
    refine ⟨_, S, T, rfl, rfl, rfl, rfl, ?_⟩
    have hd := hd.2
    refine xj_E.adv 1 (pc' := (if xj_cmp .eq (r_p_hasSentry S b) 0 = true then 31 else 22)) (ls' := [(0, .ref 0), (1, .int a), (2, .int b), (3, .int c)]) (st' := []) (w' := (SH, S, T)) rfl ?_
    refine xj_E.b_eq (fun q => ?_) (fun q => ?_)
    · have hd := hd.1 q
      have h := fun v e => h v (Eq.trans e (if_pos q).symm)
      refine xj_E.adv 1 (pc' := 32) (ls' := [(0, .ref 0), (1, .int a), (2, .int b), (3, .int c)]) (st' := [.int 0]) (w' := (SH, S, T)) rfl ?_
      exact xj_E.ret rfl rfl rfl rfl (h _ rfl)
    · have hd := hd.2 q
      have h := fun v e => h v (Eq.trans e (if_neg q).symm)
      refine xj_E.adv 2 (pc' := (if xj_cmp .lt c 0 = true then 31 else 26)) (ls' := [(0, .ref 0), (1, .int a), (2, .int b), (3, .int c)]) (st' := []) (w' := (SH, S, T)) rfl ?_
      refine xj_E.b_lt (fun q => ?_) (fun q => ?_)
      · have hd := hd.1 q
        have h := fun v e => h v (Eq.trans e (if_pos q).symm)
        refine xj_E.adv 1 (pc' := 32) (ls' := [(0, .ref 0), (1, .int a), (2, .int b), (3, .int c)]) (st' := [.int 0]) (w' := (SH, S, T)) rfl ?_
        exact xj_E.ret rfl rfl rfl rfl (h _ rfl)
      · have hd := hd.2 q
        have h := fun v e => h v (Eq.trans e (if_neg q).symm)
        refine xj_E.adv 3 (pc' := (if xj_cmp .lt c 2 = true then 33 else 31)) (ls' := [(0, .ref 0), (1, .int a), (2, .int b), (3, .int c)]) (st' := []) (w' := (SH, S, T)) rfl ?_
        refine xj_E.b_lt (fun q => ?_) (fun q => ?_)
        · have hd := hd.1 q
          have h := fun v e => h v (Eq.trans e (if_pos q).symm)
          refine xj_E.adv 3 (pc' := 38) (ls' := [(0, .ref 0), (1, .int a), (2, .int b), (3, .int c)]) (st' := [.int a, .ref 14]) (w' := (SH, S, T)) rfl ?_
          refine xj_E.calli (d := d) (S := SH) rfl rfl rfl rfl rfl (ok_l_isFinal hd.1 ?_)
          intro v e
          subst e
          refine ⟨_, S, T, rfl, rfl, rfl, rfl, ?_⟩
          have hd := hd.2
          refine xj_E.adv 1 (pc' := (if xj_cmp .ne (r_l_isFinal S a) 0 = true then 66 else 44)) (ls' := [(0, .ref 0), (1, .int a), (2, .int b), (3, .int c)]) (st' := []) (w' := (SH, S, T)) rfl ?_
          refine xj_E.b_ne (fun q => ?_) (fun q => ?_)
          · have hd := hd.1 q
            have h := fun v e => h v (Eq.trans e (if_pos q).symm)
            refine xj_E.adv 1 (pc' := 67) (ls' := [(0, .ref 0), (1, .int a), (2, .int b), (3, .int c)]) (st' := [.int 0]) (w' := (SH, S, T)) rfl ?_
            exact xj_E.ret rfl rfl rfl rfl (h _ rfl)
          · have hd := hd.2 q
            have h := fun v e => h v (Eq.trans e (if_neg q).symm)
            refine xj_E.adv 4 (pc' := 52) (ls' := [(0, .ref 0), (1, .int a), (2, .int b), (3, .int c)]) (st' := [.int a, .ref 19]) (w' := (SH, S, T)) rfl ?_
            refine xj_E.iald rfl rfl hd.1 ?_
            have hd := hd.2
            refine xj_E.adv 2 (pc' := 55) (ls' := [(0, .ref 0), (1, .int a), (2, .int b), (3, .int c)]) (st' := [.int c, .int b, .int (S 19 a.toNatClampNeg)]) (w' := (SH, S, T)) rfl ?_
            refine xj_E.calli (d := d) (S := SH) rfl rfl rfl rfl rfl (ok_p_partBit hd.1 ?_)
            intro v e
            subst e
            refine ⟨_, S, T, rfl, rfl, rfl, rfl, ?_⟩
            have hd := hd.2
            refine xj_E.adv 2 (pc' := (if xj_cmp .eq ((S 19 a.toNatClampNeg) &&& (r_p_partBit S b c)) 0 = true then 66 else 62)) (ls' := [(0, .ref 0), (1, .int a), (2, .int b), (3, .int c)]) (st' := []) (w' := (SH, S, T)) rfl ?_
            refine xj_E.b_eq (fun q => ?_) (fun q => ?_)
            · have hd := hd.1 q
              have h := fun v e => h v (Eq.trans e (if_pos q).symm)
              refine xj_E.adv 1 (pc' := 67) (ls' := [(0, .ref 0), (1, .int a), (2, .int b), (3, .int c)]) (st' := [.int 0]) (w' := (SH, S, T)) rfl ?_
              exact xj_E.ret rfl rfl rfl rfl (h _ rfl)
            · have hd := hd.2 q
              have h := fun v e => h v (Eq.trans e (if_neg q).symm)
              refine xj_E.adv 2 (pc' := 67) (ls' := [(0, .ref 0), (1, .int a), (2, .int b), (3, .int c)]) (st' := [.int 1]) (w' := (SH, S, T)) rfl ?_
              exact xj_E.ret rfl rfl rfl rfl (h _ rfl)
        · have hd := hd.2 q
          have h := fun v e => h v (Eq.trans e (if_neg q).symm)
          refine xj_E.adv 1 (pc' := 32) (ls' := [(0, .ref 0), (1, .int a), (2, .int b), (3, .int c)]) (st' := [.int 0]) (w' := (SH, S, T)) rfl ?_
          exact xj_E.ret rfl rfl rfl rfl (h _ rfl)
set_option maxRecDepth 100000 in
theorem ok_c_moves {L d : Nat} {xs : Nat → Int32} {S : Nat → Nat → Int32} {T : Nat → Nat → Int64} {P : (Option Value ⊕ Nat) → xj_W → Nat → Nat → Prop} (hd : d_c_moves S ) (h : ∀ v, v = r_c_moves S  → P (.inl (some (.int v))) (SH, S, T) 0 0) : xj_E (xX L xs) d 40 0 [(0, .ref 0)] [] (SH, S, T) P := by
  unfold d_c_moves at hd
  unfold r_c_moves at h
  refine xj_E.adv 3 (pc' := 7) (ls' := [(0, .ref 0)]) (st' := [.int (S 14 8)]) (w' := (SH, S, T)) rfl ?_
  exact xj_E.ret rfl rfl rfl rfl (h _ rfl)
set_option maxRecDepth 100000 in
theorem ok_c_history {L d : Nat} {xs : Nat → Int32} {S : Nat → Nat → Int32} {T : Nat → Nat → Int64} {P : (Option Value ⊕ Nat) → xj_W → Nat → Nat → Prop} {a b : Int32} (hd : d_c_history S a b) (h : ∀ v, v = r_c_history S a b → P (.inl (some (.int v))) (SH, S, T) 0 0) : xj_E (xX L xs) d 41 0 [(0, .ref 0), (1, .int a), (2, .int b)] [] (SH, S, T) P := by
  unfold d_c_history at hd
  unfold r_c_history at h
  refine xj_E.adv 2 (pc' := (if xj_cmp .lt a 0 = true then 21 else 4)) (ls' := [(0, .ref 0), (1, .int a), (2, .int b)]) (st' := []) (w' := (SH, S, T)) rfl ?_
  refine xj_E.b_lt (fun q => ?_) (fun q => ?_)
  · have hd := hd.1 q
    have h := fun v e => h v (Eq.trans e (if_pos q).symm)
    refine xj_E.adv 1 (pc' := 22) (ls' := [(0, .ref 0), (1, .int a), (2, .int b)]) (st' := [.int (-1)]) (w' := (SH, S, T)) rfl ?_
    exact xj_E.ret rfl rfl rfl rfl (h _ rfl)
  · have hd := hd.2 q
    have h := fun v e => h v (Eq.trans e (if_neg q).symm)
    refine xj_E.adv 3 (pc' := (if xj_cmp .ge a 48 = true then 21 else 10)) (ls' := [(0, .ref 0), (1, .int a), (2, .int b)]) (st' := []) (w' := (SH, S, T)) rfl ?_
    refine xj_E.b_ge (fun q => ?_) (fun q => ?_)
    · have hd := hd.1 q
      have h := fun v e => h v (Eq.trans e (if_pos q).symm)
      refine xj_E.adv 1 (pc' := 22) (ls' := [(0, .ref 0), (1, .int a), (2, .int b)]) (st' := [.int (-1)]) (w' := (SH, S, T)) rfl ?_
      exact xj_E.ret rfl rfl rfl rfl (h _ rfl)
    · have hd := hd.2 q
      have h := fun v e => h v (Eq.trans e (if_neg q).symm)
      refine xj_E.adv 5 (pc' := (if xj_cmp .lt a (S 14 8) = true then 23 else 21)) (ls' := [(0, .ref 0), (1, .int a), (2, .int b)]) (st' := []) (w' := (SH, S, T)) rfl ?_
      refine xj_E.b_lt (fun q => ?_) (fun q => ?_)
      · have hd := hd.1 q
        have h := fun v e => h v (Eq.trans e (if_pos q).symm)
        refine xj_E.adv 11 (pc' := 39) (ls' := [(3, .int ((((S 14 8) - 1) - a) - (((S 14 8) - 1) - a) / 48 * 48)), (0, .ref 0), (1, .int a), (2, .int b)]) (st' := [.int b]) (w' := (SH, S, T)) rfl ?_
        by_cases q0 : b = 0
        · have hd := hd.1 q0
          have h := fun v e => h v (Eq.trans e (if_pos q0).symm)
          refine xj_E.swk q0 ?_
          refine xj_E.adv 1 (pc' := 64) (ls' := [(3, .int ((((S 14 8) - 1) - a) - (((S 14 8) - 1) - a) / 48 * 48)), (0, .ref 0), (1, .int a), (2, .int b)]) (st' := []) (w' := (SH, S, T)) rfl ?_
          refine xj_E.adv 4 (pc' := 72) (ls' := [(3, .int ((((S 14 8) - 1) - a) - (((S 14 8) - 1) - a) / 48 * 48)), (0, .ref 0), (1, .int a), (2, .int b)]) (st' := [.int ((((S 14 8) - 1) - a) - (((S 14 8) - 1) - a) / 48 * 48), .ref 21]) (w' := (SH, S, T)) rfl ?_
          refine xj_E.iald rfl rfl hd.1 ?_
          have hd := hd.2
          exact xj_E.ret rfl rfl rfl rfl (h _ rfl)
        · have hd := hd.2 q0
          have h := fun v e => h v (Eq.trans e (if_neg q0).symm)
          by_cases q1 : b = 1
          · have hd := hd.1 q1
            have h := fun v e => h v (Eq.trans e (if_pos q1).symm)
            refine xj_E.swk q1 ?_
            refine xj_E.adv 1 (pc' := 74) (ls' := [(3, .int ((((S 14 8) - 1) - a) - (((S 14 8) - 1) - a) / 48 * 48)), (0, .ref 0), (1, .int a), (2, .int b)]) (st' := []) (w' := (SH, S, T)) rfl ?_
            refine xj_E.adv 4 (pc' := 82) (ls' := [(3, .int ((((S 14 8) - 1) - a) - (((S 14 8) - 1) - a) / 48 * 48)), (0, .ref 0), (1, .int a), (2, .int b)]) (st' := [.int ((((S 14 8) - 1) - a) - (((S 14 8) - 1) - a) / 48 * 48), .ref 22]) (w' := (SH, S, T)) rfl ?_
            refine xj_E.iald rfl rfl hd.1 ?_
            have hd := hd.2
            exact xj_E.ret rfl rfl rfl rfl (h _ rfl)
          · have hd := hd.2 q1
            have h := fun v e => h v (Eq.trans e (if_neg q1).symm)
            refine xj_E.swl2 rfl rfl (fun e => q0 (xj_ti e rfl)) (fun e => q1 (xj_ti e rfl)) rfl ?_
            refine xj_E.adv 1 (pc' := 85) (ls' := [(3, .int ((((S 14 8) - 1) - a) - (((S 14 8) - 1) - a) / 48 * 48)), (0, .ref 0), (1, .int a), (2, .int b)]) (st' := [.int (-1)]) (w' := (SH, S, T)) rfl ?_
            exact xj_E.ret rfl rfl rfl rfl (h _ rfl)
      · have hd := hd.2 q
        have h := fun v e => h v (Eq.trans e (if_neg q).symm)
        refine xj_E.adv 1 (pc' := 22) (ls' := [(0, .ref 0), (1, .int a), (2, .int b)]) (st' := [.int (-1)]) (w' := (SH, S, T)) rfl ?_
        exact xj_E.ret rfl rfl rfl rfl (h _ rfl)
set_option maxRecDepth 100000 in
theorem ok_c_isVariable {L d : Nat} {xs : Nat → Int32} {S : Nat → Nat → Int32} {T : Nat → Nat → Int64} {P : (Option Value ⊕ Nat) → xj_W → Nat → Nat → Prop} {a : Int32} (hd : d_c_isVariable S a) (h : ∀ v, v = r_c_isVariable S a → P (.inl (some (.int v))) (SH, S, T) 0 0) : xj_E (xX L xs) d 42 0 [(0, .int a)] [] (SH, S, T) P := by
  unfold d_c_isVariable at hd
  unfold r_c_isVariable at h
  refine xj_E.adv 2 (pc' := (if xj_cmp .lt a 0 = true then 13 else 4)) (ls' := [(0, .int a)]) (st' := []) (w' := (SH, S, T)) rfl ?_
  refine xj_E.b_lt (fun q => ?_) (fun q => ?_)
  · have hd := hd.1 q
    have h := fun v e => h v (Eq.trans e (if_pos q).symm)
    refine xj_E.adv 1 (pc' := 14) (ls' := [(0, .int a)]) (st' := [.int 0]) (w' := (SH, S, T)) rfl ?_
    exact xj_E.ret rfl rfl rfl rfl (h _ rfl)
  · have hd := hd.2 q
    have h := fun v e => h v (Eq.trans e (if_neg q).symm)
    refine xj_E.adv 3 (pc' := (if xj_cmp .ge a 4 = true then 13 else 9)) (ls' := [(0, .int a)]) (st' := []) (w' := (SH, S, T)) rfl ?_
    refine xj_E.b_ge (fun q => ?_) (fun q => ?_)
    · have hd := hd.1 q
      have h := fun v e => h v (Eq.trans e (if_pos q).symm)
      refine xj_E.adv 1 (pc' := 14) (ls' := [(0, .int a)]) (st' := [.int 0]) (w' := (SH, S, T)) rfl ?_
      exact xj_E.ret rfl rfl rfl rfl (h _ rfl)
    · have hd := hd.2 q
      have h := fun v e => h v (Eq.trans e (if_neg q).symm)
      refine xj_E.adv 2 (pc' := 14) (ls' := [(0, .int a)]) (st' := [.int 1]) (w' := (SH, S, T)) rfl ?_
      exact xj_E.ret rfl rfl rfl rfl (h _ rfl)
set_option maxRecDepth 100000 in
theorem ok_c_isCommandMove {L d : Nat} {xs : Nat → Int32} {S : Nat → Nat → Int32} {T : Nat → Nat → Int64} {P : (Option Value ⊕ Nat) → xj_W → Nat → Nat → Prop} {a : Int32} (hd : d_c_isCommandMove S a) (h : ∀ v, v = r_c_isCommandMove S a → P (.inl (some (.int v))) (SH, S, T) 0 0) : xj_E (xX L xs) d 43 0 [(0, .int a)] [] (SH, S, T) P := by
  unfold d_c_isCommandMove at hd
  unfold r_c_isCommandMove at h
  refine xj_E.adv 3 (pc' := (if xj_cmp .lt a 2 = true then 15 else 5)) (ls' := [(0, .int a)]) (st' := []) (w' := (SH, S, T)) rfl ?_
  refine xj_E.b_lt (fun q => ?_) (fun q => ?_)
  · have hd := hd.1 q
    have h := fun v e => h v (Eq.trans e (if_pos q).symm)
    refine xj_E.adv 1 (pc' := 16) (ls' := [(0, .int a)]) (st' := [.int 0]) (w' := (SH, S, T)) rfl ?_
    exact xj_E.ret rfl rfl rfl rfl (h _ rfl)
  · have hd := hd.2 q
    have h := fun v e => h v (Eq.trans e (if_neg q).symm)
    refine xj_E.adv 3 (pc' := (if xj_cmp .gt a 9 = true then 15 else 11)) (ls' := [(0, .int a)]) (st' := []) (w' := (SH, S, T)) rfl ?_
    refine xj_E.b_gt (fun q => ?_) (fun q => ?_)
    · have hd := hd.1 q
      have h := fun v e => h v (Eq.trans e (if_pos q).symm)
      refine xj_E.adv 1 (pc' := 16) (ls' := [(0, .int a)]) (st' := [.int 0]) (w' := (SH, S, T)) rfl ?_
      exact xj_E.ret rfl rfl rfl rfl (h _ rfl)
    · have hd := hd.2 q
      have h := fun v e => h v (Eq.trans e (if_neg q).symm)
      refine xj_E.adv 2 (pc' := 16) (ls' := [(0, .int a)]) (st' := [.int 1]) (w' := (SH, S, T)) rfl ?_
      exact xj_E.ret rfl rfl rfl rfl (h _ rfl)
set_option maxRecDepth 100000 in
theorem ok_c_parentLets {L d : Nat} {xs : Nat → Int32} {S : Nat → Nat → Int32} {T : Nat → Nat → Int64} {P : (Option Value ⊕ Nat) → xj_W → Nat → Nat → Prop} {a : Int32} (hd : d_c_parentLets S a) (h : ∀ v, v = r_c_parentLets S a → P (.inl (some (.int v))) (SH, S, T) 0 0) : xj_E (xX L xs) d 46 0 [(0, .ref 0), (1, .int a)] [] (SH, S, T) P := by
  unfold d_c_parentLets at hd
  unfold r_c_parentLets at h
  refine xj_E.adv 4 (pc' := 8) (ls' := [(0, .ref 0), (1, .int a)]) (st' := [.int a, .ref 16]) (w' := (SH, S, T)) rfl ?_
  refine xj_E.iald rfl rfl hd.1 ?_
  have hd := hd.2
  refine xj_E.adv 4 (pc' := (if xj_cmp .eq (S 16 a.toNatClampNeg) (-1) = true then 28 else 15)) (ls' := [(2, .int (S 16 a.toNatClampNeg)), (0, .ref 0), (1, .int a)]) (st' := []) (w' := (SH, S, T)) rfl ?_
  refine xj_E.b_eq (fun q => ?_) (fun q => ?_)
  · have hd := hd.1 q
    have h := fun v e => h v (Eq.trans e (if_pos q).symm)
    refine xj_E.adv 2 (pc' := 33) (ls' := [(2, .int (S 16 a.toNatClampNeg)), (0, .ref 0), (1, .int a)]) (st' := [.int 1]) (w' := (SH, S, T)) rfl ?_
    exact xj_E.ret rfl rfl rfl rfl (h _ rfl)
  · have hd := hd.2 q
    have h := fun v e => h v (Eq.trans e (if_neg q).symm)
    refine xj_E.adv 4 (pc' := 23) (ls' := [(2, .int (S 16 a.toNatClampNeg)), (0, .ref 0), (1, .int a)]) (st' := [.int (S 16 a.toNatClampNeg), .ref 17]) (w' := (SH, S, T)) rfl ?_
    refine xj_E.iald rfl rfl hd.1 ?_
    have hd := hd.2
    refine xj_E.adv 2 (pc' := (if xj_cmp .ne (S 17 (S 16 a.toNatClampNeg).toNatClampNeg) 2 = true then 32 else 28)) (ls' := [(2, .int (S 16 a.toNatClampNeg)), (0, .ref 0), (1, .int a)]) (st' := []) (w' := (SH, S, T)) rfl ?_
    refine xj_E.b_ne (fun q => ?_) (fun q => ?_)
    · have hd := hd.1 q
      have h := fun v e => h v (Eq.trans e (if_pos q).symm)
      refine xj_E.adv 1 (pc' := 33) (ls' := [(2, .int (S 16 a.toNatClampNeg)), (0, .ref 0), (1, .int a)]) (st' := [.int 0]) (w' := (SH, S, T)) rfl ?_
      exact xj_E.ret rfl rfl rfl rfl (h _ rfl)
    · have hd := hd.2 q
      have h := fun v e => h v (Eq.trans e (if_neg q).symm)
      refine xj_E.adv 2 (pc' := 33) (ls' := [(2, .int (S 16 a.toNatClampNeg)), (0, .ref 0), (1, .int a)]) (st' := [.int 1]) (w' := (SH, S, T)) rfl ?_
      exact xj_E.ret rfl rfl rfl rfl (h _ rfl)
set_option maxRecDepth 100000 in
theorem okl_c_isSettled {L d : Nat} {xs : Nat → Int32} {S : Nat → Nat → Int32} {T : Nat → Nat → Int64} {P : (Option Value ⊕ Nat) → xj_W → Nat → Nat → Prop} (n : Nat) : (∀ u1 u2, dl0_c_isSettled n S u1 u2 → (∀ v, v = rl0_c_isSettled n S u1 u2 → P (.inl (some (.int v))) (SH, S, T) 0 0) → xj_E (xX L xs) (d + 1) 54 2 [(0, .ref 0), (1, .int u1), (2, .int u2)] [] (SH, S, T) P) := by
  induction n with
  | zero =>
    exact fun _ _ hd _ => hd.elim
  | succ n ih =>
    intro u1 u2 hd h
    refine xj_E.adv 5 (pc' := (if xj_cmp .ge u2 (S 14 1) = true then 76 else 13)) (ls' := [(0, .ref 0), (1, .int u1), (2, .int u2)]) (st' := []) (w' := (SH, S, T)) rfl ?_
    refine xj_E.b_ge (fun q => ?_) (fun q => ?_)
    · have hd := hd.1 q
      have h := fun v e => h v (Eq.trans e (if_pos q).symm)
      refine xj_E.adv 1 (pc' := 77) (ls' := [(0, .ref 0), (1, .int u1), (2, .int u2)]) (st' := [.int 1]) (w' := (SH, S, T)) rfl ?_
      exact xj_E.ret rfl rfl rfl rfl (h _ rfl)
    · have hd := hd.2 q
      have h := fun v e => h v (Eq.trans e (if_neg q).symm)
      refine xj_E.adv 4 (pc' := 21) (ls' := [(0, .ref 0), (1, .int u1), (2, .int u2)]) (st' := [.int u2, .ref 16]) (w' := (SH, S, T)) rfl ?_
      refine xj_E.iald rfl rfl hd.1 ?_
      have hd := hd.2
      refine xj_E.adv 2 (pc' := (if xj_cmp .ne (S 16 u2.toNatClampNeg) u1 = true then 70 else 26)) (ls' := [(0, .ref 0), (1, .int u1), (2, .int u2)]) (st' := []) (w' := (SH, S, T)) rfl ?_
      refine xj_E.b_ne (fun q => ?_) (fun q => ?_)
      · have hd := hd.1 q
        have h := fun v e => h v (Eq.trans e (if_pos q).symm)
        refine xj_E.adv 2 (pc' := 2) (ls' := [(2, .int (u2 + 1)), (0, .ref 0), (1, .int u1)]) (st' := []) (w' := (SH, S, T)) rfl ?_
        refine xj_E.loc [0, 1, 2] xhth rfl (show xj_E (xX L xs) (d + 1) 54 2 [(0, .ref 0), (1, .int u1), (2, .int (u2 + 1))] [] (SH, S, T) P from ?_)
        exact (ih) _ _ hd h
      · have hd := hd.2 q
        have h := fun v e => h v (Eq.trans e (if_neg q).symm)
        refine xj_E.adv 3 (pc' := 31) (ls' := [(0, .ref 0), (1, .int u1), (2, .int u2)]) (st' := [.int u2, .ref 14]) (w' := (SH, S, T)) rfl ?_
        refine xj_E.calli (d := d) (S := SH) rfl rfl rfl rfl rfl (ok_l_isFinal hd.1 ?_)
        intro v e
        subst e
        refine ⟨_, S, T, rfl, rfl, rfl, rfl, ?_⟩
        have hd := hd.2
        refine xj_E.adv 1 (pc' := (if xj_cmp .ne (r_l_isFinal S u2) 0 = true then 70 else 37)) (ls' := [(0, .ref 0), (1, .int u1), (2, .int u2)]) (st' := []) (w' := (SH, S, T)) rfl ?_
        refine xj_E.b_ne (fun q => ?_) (fun q => ?_)
        · have hd := hd.1 q
          have h := fun v e => h v (Eq.trans e (if_pos q).symm)
          refine xj_E.adv 2 (pc' := 2) (ls' := [(2, .int (u2 + 1)), (0, .ref 0), (1, .int u1)]) (st' := []) (w' := (SH, S, T)) rfl ?_
          refine xj_E.loc [0, 1, 2] xhth rfl (show xj_E (xX L xs) (d + 1) 54 2 [(0, .ref 0), (1, .int u1), (2, .int (u2 + 1))] [] (SH, S, T) P from ?_)
          exact (ih) _ _ hd h
        · have hd := hd.2 q
          have h := fun v e => h v (Eq.trans e (if_neg q).symm)
          refine xj_E.adv 3 (pc' := 42) (ls' := [(0, .ref 0), (1, .int u1), (2, .int u2)]) (st' := [.int u2, .ref 14]) (w' := (SH, S, T)) rfl ?_
          refine xj_E.calli (d := d) (S := SH) rfl rfl rfl rfl rfl (ok_l_isWaiting hd.1 ?_)
          intro v e
          subst e
          refine ⟨_, S, T, rfl, rfl, rfl, rfl, ?_⟩
          have hd := hd.2
          refine xj_E.adv 1 (pc' := (if xj_cmp .eq (r_l_isWaiting S u2) 0 = true then 68 else 48)) (ls' := [(0, .ref 0), (1, .int u1), (2, .int u2)]) (st' := []) (w' := (SH, S, T)) rfl ?_
          refine xj_E.b_eq (fun q => ?_) (fun q => ?_)
          · have hd := hd.1 q
            have h := fun v e => h v (Eq.trans e (if_pos q).symm)
            refine xj_E.adv 1 (pc' := 69) (ls' := [(0, .ref 0), (1, .int u1), (2, .int u2)]) (st' := [.int 0]) (w' := (SH, S, T)) rfl ?_
            exact xj_E.ret rfl rfl rfl rfl (h _ rfl)
          · have hd := hd.2 q
            have h := fun v e => h v (Eq.trans e (if_neg q).symm)
            refine xj_E.adv 6 (pc' := 60) (ls' := [(0, .ref 0), (1, .int u1), (2, .int u2)]) (st' := [.int u2, .ref 15, .ref 1]) (w' := (SH, S, T)) rfl ?_
            refine xj_E.iald rfl rfl hd.1 ?_
            have hd := hd.2
            refine xj_E.adv 1 (pc' := 62) (ls' := [(0, .ref 0), (1, .int u1), (2, .int u2)]) (st' := [.int 2, .int (S 15 u2.toNatClampNeg), .ref 1]) (w' := (SH, S, T)) rfl ?_
            refine xj_E.calli (d := d) (S := SH) rfl rfl rfl rfl rfl (ok_p_hasFlag hd.1 ?_)
            intro v e
            subst e
            refine ⟨_, S, T, rfl, rfl, rfl, rfl, ?_⟩
            have hd := hd.2
            refine xj_E.adv 1 (pc' := (if xj_cmp .eq (r_p_hasFlag S (S 15 u2.toNatClampNeg) 2) 0 = true then 70 else 68)) (ls' := [(0, .ref 0), (1, .int u1), (2, .int u2)]) (st' := []) (w' := (SH, S, T)) rfl ?_
            refine xj_E.b_eq (fun q => ?_) (fun q => ?_)
            · have hd := hd.1 q
              have h := fun v e => h v (Eq.trans e (if_pos q).symm)
              refine xj_E.adv 2 (pc' := 2) (ls' := [(2, .int (u2 + 1)), (0, .ref 0), (1, .int u1)]) (st' := []) (w' := (SH, S, T)) rfl ?_
              refine xj_E.loc [0, 1, 2] xhth rfl (show xj_E (xX L xs) (d + 1) 54 2 [(0, .ref 0), (1, .int u1), (2, .int (u2 + 1))] [] (SH, S, T) P from ?_)
              exact (ih) _ _ hd h
            · have hd := hd.2 q
              have h := fun v e => h v (Eq.trans e (if_neg q).symm)
              refine xj_E.adv 1 (pc' := 69) (ls' := [(0, .ref 0), (1, .int u1), (2, .int u2)]) (st' := [.int 0]) (w' := (SH, S, T)) rfl ?_
              exact xj_E.ret rfl rfl rfl rfl (h _ rfl)
set_option maxRecDepth 100000 in
theorem ok_c_isSettled {L d : Nat} {xs : Nat → Int32} {S : Nat → Nat → Int32} {T : Nat → Nat → Int64} {P : (Option Value ⊕ Nat) → xj_W → Nat → Nat → Prop} {a : Int32} (hd : d_c_isSettled S a) (h : ∀ v, v = r_c_isSettled S a → P (.inl (some (.int v))) (SH, S, T) 0 0) : xj_E (xX L xs) (d + 1) 54 0 [(0, .ref 0), (1, .int a)] [] (SH, S, T) P := by
  unfold d_c_isSettled at hd
  unfold r_c_isSettled at h
  refine xj_E.adv 2 (pc' := 2) (ls' := [(2, .int 0), (0, .ref 0), (1, .int a)]) (st' := []) (w' := (SH, S, T)) rfl ?_
  refine xj_E.loc [0, 1, 2] xhth rfl (show xj_E (xX L xs) (d + 1) 54 2 [(0, .ref 0), (1, .int a), (2, .int 0)] [] (SH, S, T) P from ?_)
  exact (okl_c_isSettled 200) _ _ hd h
set_option maxRecDepth 100000 in
theorem okl_c_hasWaitingChild {L d : Nat} {xs : Nat → Int32} {S : Nat → Nat → Int32} {T : Nat → Nat → Int64} {P : (Option Value ⊕ Nat) → xj_W → Nat → Nat → Prop} (n : Nat) : (∀ u1 u2, dl0_c_hasWaitingChild n S u1 u2 → (∀ v, v = rl0_c_hasWaitingChild n S u1 u2 → P (.inl (some (.int v))) (SH, S, T) 0 0) → xj_E (xX L xs) (d + 1) 56 2 [(0, .ref 0), (1, .int u1), (2, .int u2)] [] (SH, S, T) P) := by
  induction n with
  | zero =>
    exact fun _ _ hd _ => hd.elim
  | succ n ih =>
    intro u1 u2 hd h
    refine xj_E.adv 5 (pc' := (if xj_cmp .ge u2 (S 14 1) = true then 45 else 13)) (ls' := [(0, .ref 0), (1, .int u1), (2, .int u2)]) (st' := []) (w' := (SH, S, T)) rfl ?_
    refine xj_E.b_ge (fun q => ?_) (fun q => ?_)
    · have hd := hd.1 q
      have h := fun v e => h v (Eq.trans e (if_pos q).symm)
      refine xj_E.adv 1 (pc' := 46) (ls' := [(0, .ref 0), (1, .int u1), (2, .int u2)]) (st' := [.int 0]) (w' := (SH, S, T)) rfl ?_
      exact xj_E.ret rfl rfl rfl rfl (h _ rfl)
    · have hd := hd.2 q
      have h := fun v e => h v (Eq.trans e (if_neg q).symm)
      refine xj_E.adv 4 (pc' := 21) (ls' := [(0, .ref 0), (1, .int u1), (2, .int u2)]) (st' := [.int u2, .ref 16]) (w' := (SH, S, T)) rfl ?_
      refine xj_E.iald rfl rfl hd.1 ?_
      have hd := hd.2
      refine xj_E.adv 2 (pc' := (if xj_cmp .ne (S 16 u2.toNatClampNeg) u1 = true then 39 else 26)) (ls' := [(0, .ref 0), (1, .int u1), (2, .int u2)]) (st' := []) (w' := (SH, S, T)) rfl ?_
      refine xj_E.b_ne (fun q => ?_) (fun q => ?_)
      · have hd := hd.1 q
        have h := fun v e => h v (Eq.trans e (if_pos q).symm)
        refine xj_E.adv 2 (pc' := 2) (ls' := [(2, .int (u2 + 1)), (0, .ref 0), (1, .int u1)]) (st' := []) (w' := (SH, S, T)) rfl ?_
        refine xj_E.loc [0, 1, 2] xhth rfl (show xj_E (xX L xs) (d + 1) 56 2 [(0, .ref 0), (1, .int u1), (2, .int (u2 + 1))] [] (SH, S, T) P from ?_)
        exact (ih) _ _ hd h
      · have hd := hd.2 q
        have h := fun v e => h v (Eq.trans e (if_neg q).symm)
        refine xj_E.adv 3 (pc' := 31) (ls' := [(0, .ref 0), (1, .int u1), (2, .int u2)]) (st' := [.int u2, .ref 14]) (w' := (SH, S, T)) rfl ?_
        refine xj_E.calli (d := d) (S := SH) rfl rfl rfl rfl rfl (ok_l_isWaiting hd.1 ?_)
        intro v e
        subst e
        refine ⟨_, S, T, rfl, rfl, rfl, rfl, ?_⟩
        have hd := hd.2
        refine xj_E.adv 1 (pc' := (if xj_cmp .eq (r_l_isWaiting S u2) 0 = true then 39 else 37)) (ls' := [(0, .ref 0), (1, .int u1), (2, .int u2)]) (st' := []) (w' := (SH, S, T)) rfl ?_
        refine xj_E.b_eq (fun q => ?_) (fun q => ?_)
        · have hd := hd.1 q
          have h := fun v e => h v (Eq.trans e (if_pos q).symm)
          refine xj_E.adv 2 (pc' := 2) (ls' := [(2, .int (u2 + 1)), (0, .ref 0), (1, .int u1)]) (st' := []) (w' := (SH, S, T)) rfl ?_
          refine xj_E.loc [0, 1, 2] xhth rfl (show xj_E (xX L xs) (d + 1) 56 2 [(0, .ref 0), (1, .int u1), (2, .int (u2 + 1))] [] (SH, S, T) P from ?_)
          exact (ih) _ _ hd h
        · have hd := hd.2 q
          have h := fun v e => h v (Eq.trans e (if_neg q).symm)
          refine xj_E.adv 1 (pc' := 38) (ls' := [(0, .ref 0), (1, .int u1), (2, .int u2)]) (st' := [.int 1]) (w' := (SH, S, T)) rfl ?_
          exact xj_E.ret rfl rfl rfl rfl (h _ rfl)
set_option maxRecDepth 100000 in
theorem ok_c_hasWaitingChild {L d : Nat} {xs : Nat → Int32} {S : Nat → Nat → Int32} {T : Nat → Nat → Int64} {P : (Option Value ⊕ Nat) → xj_W → Nat → Nat → Prop} {a : Int32} (hd : d_c_hasWaitingChild S a) (h : ∀ v, v = r_c_hasWaitingChild S a → P (.inl (some (.int v))) (SH, S, T) 0 0) : xj_E (xX L xs) (d + 1) 56 0 [(0, .ref 0), (1, .int a)] [] (SH, S, T) P := by
  unfold d_c_hasWaitingChild at hd
  unfold r_c_hasWaitingChild at h
  refine xj_E.adv 2 (pc' := 2) (ls' := [(2, .int 0), (0, .ref 0), (1, .int a)]) (st' := []) (w' := (SH, S, T)) rfl ?_
  refine xj_E.loc [0, 1, 2] xhth rfl (show xj_E (xX L xs) (d + 1) 56 2 [(0, .ref 0), (1, .int a), (2, .int 0)] [] (SH, S, T) P from ?_)
  exact (okl_c_hasWaitingChild 200) _ _ hd h
set_option maxRecDepth 100000 in
theorem ok_m_thrown {L d : Nat} {xs : Nat → Int32} {S : Nat → Nat → Int32} {T : Nat → Nat → Int64} {P : (Option Value ⊕ Nat) → xj_W → Nat → Nat → Prop} (hd : d_m_thrown S ) (h : ∀ v, v = r_m_thrown S  → P (.inl (some (.int v))) (SH, S, T) 0 0) : xj_E (xX L xs) d 68 0 [(0, .ref 32)] [] (SH, S, T) P := by
  unfold d_m_thrown at hd
  unfold r_m_thrown at h
  refine xj_E.adv 2 (pc' := 4) (ls' := [(0, .ref 32)]) (st' := [.int (S 32 0)]) (w' := (SH, S, T)) rfl ?_
  exact xj_E.ret rfl rfl rfl rfl (h _ rfl)
set_option maxRecDepth 100000 in
theorem ok_m_within {L d : Nat} {xs : Nat → Int32} {S : Nat → Nat → Int32} {T : Nat → Nat → Int64} {P : (Option Value ⊕ Nat) → xj_W → Nat → Nat → Prop} {a b : Int32} (hd : d_m_within S a b) (h : ∀ v, v = r_m_within S a b → P (.inl (some (.int v))) (SH, S, T) 0 0) : xj_E (xX L xs) d 70 0 [(0, .int a), (1, .int b)] [] (SH, S, T) P := by
  unfold d_m_within at hd
  unfold r_m_within at h
  refine xj_E.adv 2 (pc' := (if xj_cmp .lt a 0 = true then 13 else 4)) (ls' := [(0, .int a), (1, .int b)]) (st' := []) (w' := (SH, S, T)) rfl ?_
  refine xj_E.b_lt (fun q => ?_) (fun q => ?_)
  · have hd := hd.1 q
    have h := fun v e => h v (Eq.trans e (if_pos q).symm)
    refine xj_E.adv 1 (pc' := 14) (ls' := [(0, .int a), (1, .int b)]) (st' := [.int 0]) (w' := (SH, S, T)) rfl ?_
    exact xj_E.ret rfl rfl rfl rfl (h _ rfl)
  · have hd := hd.2 q
    have h := fun v e => h v (Eq.trans e (if_neg q).symm)
    refine xj_E.adv 3 (pc' := (if xj_cmp .gt a b = true then 13 else 9)) (ls' := [(0, .int a), (1, .int b)]) (st' := []) (w' := (SH, S, T)) rfl ?_
    refine xj_E.b_gt (fun q => ?_) (fun q => ?_)
    · have hd := hd.1 q
      have h := fun v e => h v (Eq.trans e (if_pos q).symm)
      refine xj_E.adv 1 (pc' := 14) (ls' := [(0, .int a), (1, .int b)]) (st' := [.int 0]) (w' := (SH, S, T)) rfl ?_
      exact xj_E.ret rfl rfl rfl rfl (h _ rfl)
    · have hd := hd.2 q
      have h := fun v e => h v (Eq.trans e (if_neg q).symm)
      refine xj_E.adv 2 (pc' := 14) (ls' := [(0, .int a), (1, .int b)]) (st' := [.int 1]) (w' := (SH, S, T)) rfl ?_
      exact xj_E.ret rfl rfl rfl rfl (h _ rfl)
set_option maxRecDepth 100000 in
theorem ok_m_isSentry {L d : Nat} {xs : Nat → Int32} {S : Nat → Nat → Int32} {T : Nat → Nat → Int64} {P : (Option Value ⊕ Nat) → xj_W → Nat → Nat → Prop} {a : Int32} (hd : d_m_isSentry S a) (h : ∀ v, v = r_m_isSentry S a → P (.inl (some (.int v))) (SH, S, T) 0 0) : xj_E (xX L xs) d 73 0 [(0, .ref 32), (1, .int a)] [] (SH, S, T) P := by
  unfold d_m_isSentry at hd
  unfold r_m_isSentry at h
  refine xj_E.adv 2 (pc' := (if xj_cmp .lt a 0 = true then 16 else 4)) (ls' := [(0, .ref 32), (1, .int a)]) (st' := []) (w' := (SH, S, T)) rfl ?_
  refine xj_E.b_lt (fun q => ?_) (fun q => ?_)
  · have hd := hd.1 q
    have h := fun v e => h v (Eq.trans e (if_pos q).symm)
    refine xj_E.adv 1 (pc' := 17) (ls' := [(0, .ref 32), (1, .int a)]) (st' := [.int 0]) (w' := (SH, S, T)) rfl ?_
    exact xj_E.ret rfl rfl rfl rfl (h _ rfl)
  · have hd := hd.2 q
    have h := fun v e => h v (Eq.trans e (if_neg q).symm)
    refine xj_E.adv 4 (pc' := (if xj_cmp .ge a (S 32 5) = true then 16 else 12)) (ls' := [(0, .ref 32), (1, .int a)]) (st' := []) (w' := (SH, S, T)) rfl ?_
    refine xj_E.b_ge (fun q => ?_) (fun q => ?_)
    · have hd := hd.1 q
      have h := fun v e => h v (Eq.trans e (if_pos q).symm)
      refine xj_E.adv 1 (pc' := 17) (ls' := [(0, .ref 32), (1, .int a)]) (st' := [.int 0]) (w' := (SH, S, T)) rfl ?_
      exact xj_E.ret rfl rfl rfl rfl (h _ rfl)
    · have hd := hd.2 q
      have h := fun v e => h v (Eq.trans e (if_neg q).symm)
      refine xj_E.adv 2 (pc' := 17) (ls' := [(0, .ref 32), (1, .int a)]) (st' := [.int 1]) (w' := (SH, S, T)) rfl ?_
      exact xj_E.ret rfl rfl rfl rfl (h _ rfl)
set_option maxRecDepth 100000 in
theorem ok_m_isFinal {L d : Nat} {xs : Nat → Int32} {S : Nat → Nat → Int32} {T : Nat → Nat → Int64} {P : (Option Value ⊕ Nat) → xj_W → Nat → Nat → Prop} {a : Int32} (hd : d_m_isFinal S a) (h : ∀ v, v = r_m_isFinal S a → P (.inl (some (.int v))) (SH, S, T) 0 0) : xj_E (xX L xs) d 76 0 [(0, .ref 32), (1, .int a)] [] (SH, S, T) P := by
  unfold d_m_isFinal at hd
  unfold r_m_isFinal at h
  refine xj_E.adv 3 (pc' := 5) (ls' := [(0, .ref 32), (1, .int a)]) (st' := [.int a, .ref 47]) (w' := (SH, S, T)) rfl ?_
  refine xj_E.iald rfl rfl hd.1 ?_
  have hd := hd.2
  refine xj_E.adv 2 (pc' := (if xj_cmp .eq (S 47 a.toNatClampNeg) 4 = true then 20 else 10)) (ls' := [(0, .ref 32), (1, .int a)]) (st' := []) (w' := (SH, S, T)) rfl ?_
  refine xj_E.b_eq (fun q => ?_) (fun q => ?_)
  · have hd := hd.1 q
    have h := fun v e => h v (Eq.trans e (if_pos q).symm)
    refine xj_E.adv 2 (pc' := 25) (ls' := [(0, .ref 32), (1, .int a)]) (st' := [.int 1]) (w' := (SH, S, T)) rfl ?_
    exact xj_E.ret rfl rfl rfl rfl (h _ rfl)
  · have hd := hd.2 q
    have h := fun v e => h v (Eq.trans e (if_neg q).symm)
    refine xj_E.adv 3 (pc' := 15) (ls' := [(0, .ref 32), (1, .int a)]) (st' := [.int a, .ref 47]) (w' := (SH, S, T)) rfl ?_
    refine xj_E.iald rfl rfl hd.1 ?_
    have hd := hd.2
    refine xj_E.adv 2 (pc' := (if xj_cmp .ne (S 47 a.toNatClampNeg) 5 = true then 24 else 20)) (ls' := [(0, .ref 32), (1, .int a)]) (st' := []) (w' := (SH, S, T)) rfl ?_
    refine xj_E.b_ne (fun q => ?_) (fun q => ?_)
    · have hd := hd.1 q
      have h := fun v e => h v (Eq.trans e (if_pos q).symm)
      refine xj_E.adv 1 (pc' := 25) (ls' := [(0, .ref 32), (1, .int a)]) (st' := [.int 0]) (w' := (SH, S, T)) rfl ?_
      exact xj_E.ret rfl rfl rfl rfl (h _ rfl)
    · have hd := hd.2 q
      have h := fun v e => h v (Eq.trans e (if_neg q).symm)
      refine xj_E.adv 2 (pc' := 25) (ls' := [(0, .ref 32), (1, .int a)]) (st' := [.int 1]) (w' := (SH, S, T)) rfl ?_
      exact xj_E.ret rfl rfl rfl rfl (h _ rfl)
set_option maxRecDepth 100000 in
theorem ok_m_kindOf {L d : Nat} {xs : Nat → Int32} {S : Nat → Nat → Int32} {T : Nat → Nat → Int64} {P : (Option Value ⊕ Nat) → xj_W → Nat → Nat → Prop} {a : Int32} (hd : d_m_kindOf S a) (h : ∀ v, v = r_m_kindOf S a → P (.inl (some (.int v))) (SH, S, T) 0 0) : xj_E (xX L xs) d 77 0 [(0, .ref 32), (1, .int a)] [] (SH, S, T) P := by
  unfold d_m_kindOf at hd
  unfold r_m_kindOf at h
  refine xj_E.adv 5 (pc' := 9) (ls' := [(0, .ref 32), (1, .int a)]) (st' := [.int a, .ref 45, .ref 33]) (w' := (SH, S, T)) rfl ?_
  refine xj_E.iald rfl rfl hd.1 ?_
  have hd := hd.2
  refine xj_E.iald rfl rfl hd.1 ?_
  have hd := hd.2
  exact xj_E.ret rfl rfl rfl rfl (h _ rfl)
set_option maxRecDepth 100000 in
theorem ok_m_hasFlag {L d : Nat} {xs : Nat → Int32} {S : Nat → Nat → Int32} {T : Nat → Nat → Int64} {P : (Option Value ⊕ Nat) → xj_W → Nat → Nat → Prop} {a b : Int32} (hd : d_m_hasFlag S a b) (h : ∀ v, v = r_m_hasFlag S a b → P (.inl (some (.int v))) (SH, S, T) 0 0) : xj_E (xX L xs) d 78 0 [(0, .ref 32), (1, .int a), (2, .int b)] [] (SH, S, T) P := by
  unfold d_m_hasFlag at hd
  unfold r_m_hasFlag at h
  refine xj_E.adv 5 (pc' := 9) (ls' := [(0, .ref 32), (1, .int a), (2, .int b)]) (st' := [.int a, .ref 45, .ref 35]) (w' := (SH, S, T)) rfl ?_
  refine xj_E.iald rfl rfl hd.1 ?_
  have hd := hd.2
  refine xj_E.iald rfl rfl hd.1 ?_
  have hd := hd.2
  refine xj_E.adv 3 (pc' := (if xj_cmp .eq ((S 35 (S 45 a.toNatClampNeg).toNatClampNeg) &&& b) 0 = true then 20 else 16)) (ls' := [(0, .ref 32), (1, .int a), (2, .int b)]) (st' := []) (w' := (SH, S, T)) rfl ?_
  refine xj_E.b_eq (fun q => ?_) (fun q => ?_)
  · have hd := hd.1 q
    have h := fun v e => h v (Eq.trans e (if_pos q).symm)
    refine xj_E.adv 1 (pc' := 21) (ls' := [(0, .ref 32), (1, .int a), (2, .int b)]) (st' := [.int 0]) (w' := (SH, S, T)) rfl ?_
    exact xj_E.ret rfl rfl rfl rfl (h _ rfl)
  · have hd := hd.2 q
    have h := fun v e => h v (Eq.trans e (if_neg q).symm)
    refine xj_E.adv 2 (pc' := 21) (ls' := [(0, .ref 32), (1, .int a), (2, .int b)]) (st' := [.int 1]) (w' := (SH, S, T)) rfl ?_
    exact xj_E.ret rfl rfl rfl rfl (h _ rfl)
set_option maxRecDepth 100000 in
theorem okl_m_hasEntry {L d : Nat} {xs : Nat → Int32} {S : Nat → Nat → Int32} {T : Nat → Nat → Int64} {P : (Option Value ⊕ Nat) → xj_W → Nat → Nat → Prop} (n : Nat) : (∀ u1 u2 u3, dl0_m_hasEntry n S u1 u2 u3 → (∀ v, v = rl0_m_hasEntry n S u1 u2 u3 → P (.inl (some (.int v))) (SH, S, T) 0 0) → xj_E (xX L xs) d 79 4 [(0, .ref 32), (1, .int u1), (2, .int u2), (3, .int u3)] [] (SH, S, T) P) := by
  induction n with
  | zero =>
    exact fun _ _ _ hd _ => hd.elim
  | succ n ih =>
    intro u1 u2 u3 hd h
    refine xj_E.adv 4 (pc' := (if xj_cmp .ge u3 (S 32 5) = true then 52 else 12)) (ls' := [(0, .ref 32), (1, .int u1), (2, .int u2), (3, .int u3)]) (st' := []) (w' := (SH, S, T)) rfl ?_
    refine xj_E.b_ge (fun q => ?_) (fun q => ?_)
    · have hd := hd.1 q
      have h := fun v e => h v (Eq.trans e (if_pos q).symm)
      refine xj_E.adv 1 (pc' := 53) (ls' := [(0, .ref 32), (1, .int u1), (2, .int u2), (3, .int u3)]) (st' := [.int u2]) (w' := (SH, S, T)) rfl ?_
      exact xj_E.ret rfl rfl rfl (if_pos hd) (h _ rfl)
    · have hd := hd.2 q
      have h := fun v e => h v (Eq.trans e (if_neg q).symm)
      refine xj_E.adv 2 (pc' := (if xj_cmp .ne u2 0 = true then 40 else 16)) (ls' := [(0, .ref 32), (1, .int u1), (2, .int u2), (3, .int u3)]) (st' := []) (w' := (SH, S, T)) rfl ?_
      refine xj_E.b_ne (fun q => ?_) (fun q => ?_)
      · have hd := hd.1 q
        have h := fun v e => h v (Eq.trans e (if_pos q).symm)
        refine xj_E.adv 5 (pc' := 4) (ls' := [(3, .int (u3 + 1)), (2, .int 1), (0, .ref 32), (1, .int u1)]) (st' := []) (w' := (SH, S, T)) rfl ?_
        refine xj_E.loc [0, 1, 2, 3] xhth rfl (show xj_E (xX L xs) d 79 4 [(0, .ref 32), (1, .int u1), (2, .int 1), (3, .int (u3 + 1))] [] (SH, S, T) P from ?_)
        exact (ih) _ _ _ hd h
      · have hd := hd.2 q
        have h := fun v e => h v (Eq.trans e (if_neg q).symm)
        refine xj_E.adv 3 (pc' := 21) (ls' := [(0, .ref 32), (1, .int u1), (2, .int u2), (3, .int u3)]) (st' := [.int u3, .ref 36]) (w' := (SH, S, T)) rfl ?_
        refine xj_E.iald rfl rfl hd.1 ?_
        have hd := hd.2
        refine xj_E.adv 3 (pc' := 27) (ls' := [(0, .ref 32), (1, .int u1), (2, .int u2), (3, .int u3)]) (st' := [.int u1, .ref 45, .int (S 36 u3.toNatClampNeg)]) (w' := (SH, S, T)) rfl ?_
        refine xj_E.iald rfl rfl hd.1 ?_
        have hd := hd.2
        refine xj_E.adv 1 (pc' := (if xj_cmp .ne (S 36 u3.toNatClampNeg) (S 45 u1.toNatClampNeg) = true then 44 else 31)) (ls' := [(0, .ref 32), (1, .int u1), (2, .int u2), (3, .int u3)]) (st' := []) (w' := (SH, S, T)) rfl ?_
        refine xj_E.b_ne (fun q => ?_) (fun q => ?_)
        · have hd := hd.1 q
          have h := fun v e => h v (Eq.trans e (if_pos q).symm)
          refine xj_E.adv 4 (pc' := 4) (ls' := [(3, .int (u3 + 1)), (2, .int 0), (0, .ref 32), (1, .int u1)]) (st' := []) (w' := (SH, S, T)) rfl ?_
          refine xj_E.loc [0, 1, 2, 3] xhth rfl (show xj_E (xX L xs) d 79 4 [(0, .ref 32), (1, .int u1), (2, .int 0), (3, .int (u3 + 1))] [] (SH, S, T) P from ?_)
          exact (ih) _ _ _ hd h
        · have hd := hd.2 q
          have h := fun v e => h v (Eq.trans e (if_neg q).symm)
          refine xj_E.adv 3 (pc' := 36) (ls' := [(0, .ref 32), (1, .int u1), (2, .int u2), (3, .int u3)]) (st' := [.int u3, .ref 37]) (w' := (SH, S, T)) rfl ?_
          refine xj_E.bald rfl rfl hd.1 ?_
          have hd := hd.2
          refine xj_E.adv 1 (pc' := (if xj_cmp .ne (S 37 u3.toNatClampNeg) 0 = true then 44 else 40)) (ls' := [(0, .ref 32), (1, .int u1), (2, .int u2), (3, .int u3)]) (st' := []) (w' := (SH, S, T)) rfl ?_
          refine xj_E.b_ne (fun q => ?_) (fun q => ?_)
          · have hd := hd.1 q
            have h := fun v e => h v (Eq.trans e (if_pos q).symm)
            refine xj_E.adv 4 (pc' := 4) (ls' := [(3, .int (u3 + 1)), (2, .int 0), (0, .ref 32), (1, .int u1)]) (st' := []) (w' := (SH, S, T)) rfl ?_
            refine xj_E.loc [0, 1, 2, 3] xhth rfl (show xj_E (xX L xs) d 79 4 [(0, .ref 32), (1, .int u1), (2, .int 0), (3, .int (u3 + 1))] [] (SH, S, T) P from ?_)
            exact (ih) _ _ _ hd h
          · have hd := hd.2 q
            have h := fun v e => h v (Eq.trans e (if_neg q).symm)
            refine xj_E.adv 5 (pc' := 4) (ls' := [(3, .int (u3 + 1)), (2, .int 1), (0, .ref 32), (1, .int u1)]) (st' := []) (w' := (SH, S, T)) rfl ?_
            refine xj_E.loc [0, 1, 2, 3] xhth rfl (show xj_E (xX L xs) d 79 4 [(0, .ref 32), (1, .int u1), (2, .int 1), (3, .int (u3 + 1))] [] (SH, S, T) P from ?_)
            exact (ih) _ _ _ hd h
set_option maxRecDepth 100000 in
theorem ok_m_hasEntry {L d : Nat} {xs : Nat → Int32} {S : Nat → Nat → Int32} {T : Nat → Nat → Int64} {P : (Option Value ⊕ Nat) → xj_W → Nat → Nat → Prop} {a : Int32} (hd : d_m_hasEntry S a) (h : ∀ v, v = r_m_hasEntry S a → P (.inl (some (.int v))) (SH, S, T) 0 0) : xj_E (xX L xs) d 79 0 [(0, .ref 32), (1, .int a)] [] (SH, S, T) P := by
  unfold d_m_hasEntry at hd
  unfold r_m_hasEntry at h
  refine xj_E.adv 4 (pc' := 4) (ls' := [(3, .int 0), (2, .int 0), (0, .ref 32), (1, .int a)]) (st' := []) (w' := (SH, S, T)) rfl ?_
  refine xj_E.loc [0, 1, 2, 3] xhth rfl (show xj_E (xX L xs) d 79 4 [(0, .ref 32), (1, .int a), (2, .int 0), (3, .int 0)] [] (SH, S, T) P from ?_)
  exact (okl_m_hasEntry 200) _ _ _ hd h
set_option maxRecDepth 100000 in
theorem ok_m_parentActive {L d : Nat} {xs : Nat → Int32} {S : Nat → Nat → Int32} {T : Nat → Nat → Int64} {P : (Option Value ⊕ Nat) → xj_W → Nat → Nat → Prop} {a : Int32} (hd : d_m_parentActive S a) (h : ∀ v, v = r_m_parentActive S a → P (.inl (some (.int v))) (SH, S, T) 0 0) : xj_E (xX L xs) d 80 0 [(0, .ref 32), (1, .int a)] [] (SH, S, T) P := by
  unfold d_m_parentActive at hd
  unfold r_m_parentActive at h
  refine xj_E.adv 3 (pc' := 5) (ls' := [(0, .ref 32), (1, .int a)]) (st' := [.int a, .ref 46]) (w' := (SH, S, T)) rfl ?_
  refine xj_E.iald rfl rfl hd.1 ?_
  have hd := hd.2
  refine xj_E.adv 1 (pc' := (if xj_cmp .lt (S 46 a.toNatClampNeg) 0 = true then 28 else 9)) (ls' := [(0, .ref 32), (1, .int a)]) (st' := []) (w' := (SH, S, T)) rfl ?_
  refine xj_E.b_lt (fun q => ?_) (fun q => ?_)
  · have hd := hd.1 q
    have h := fun v e => h v (Eq.trans e (if_pos q).symm)
    refine xj_E.adv 1 (pc' := 29) (ls' := [(0, .ref 32), (1, .int a)]) (st' := [.int 0]) (w' := (SH, S, T)) rfl ?_
    exact xj_E.ret rfl rfl rfl rfl (h _ rfl)
  · have hd := hd.2 q
    have h := fun v e => h v (Eq.trans e (if_neg q).symm)
    refine xj_E.adv 5 (pc' := 18) (ls' := [(0, .ref 32), (1, .int a)]) (st' := [.int a, .ref 46, .ref 47]) (w' := (SH, S, T)) rfl ?_
    refine xj_E.iald rfl rfl hd.1 ?_
    have hd := hd.2
    refine xj_E.iald rfl rfl hd.1 ?_
    have hd := hd.2
    refine xj_E.adv 2 (pc' := (if xj_cmp .ne (S 47 (S 46 a.toNatClampNeg).toNatClampNeg) 2 = true then 28 else 24)) (ls' := [(0, .ref 32), (1, .int a)]) (st' := []) (w' := (SH, S, T)) rfl ?_
    refine xj_E.b_ne (fun q => ?_) (fun q => ?_)
    · have hd := hd.1 q
      have h := fun v e => h v (Eq.trans e (if_pos q).symm)
      refine xj_E.adv 1 (pc' := 29) (ls' := [(0, .ref 32), (1, .int a)]) (st' := [.int 0]) (w' := (SH, S, T)) rfl ?_
      exact xj_E.ret rfl rfl rfl rfl (h _ rfl)
    · have hd := hd.2 q
      have h := fun v e => h v (Eq.trans e (if_neg q).symm)
      refine xj_E.adv 2 (pc' := 29) (ls' := [(0, .ref 32), (1, .int a)]) (st' := [.int 1]) (w' := (SH, S, T)) rfl ?_
      exact xj_E.ret rfl rfl rfl rfl (h _ rfl)
set_option maxRecDepth 100000 in
theorem ok_m_target {L d : Nat} {xs : Nat → Int32} {S : Nat → Nat → Int32} {T : Nat → Nat → Int64} {P : (Option Value ⊕ Nat) → xj_W → Nat → Nat → Prop} {a : Int32} (hd : d_m_target S a) (h : ∀ v, v = r_m_target S a → P (.inl (some (.int v))) (SH, S, T) 0 0) : xj_E (xX L xs) d 84 0 [(0, .int a)] [] (SH, S, T) P := by
  unfold d_m_target at hd
  unfold r_m_target at h
  refine xj_E.adv 1 (pc' := 1) (ls' := [(0, .int a)]) (st' := [.int a]) (w' := (SH, S, T)) rfl ?_
  by_cases q1 : a = 1
  · have hd := hd.1 q1
    have h := fun v e => h v (Eq.trans e (if_pos q1).symm)
    refine xj_E.swk q1 ?_
    refine xj_E.adv 1 (pc' := 52) (ls' := [(0, .int a)]) (st' := []) (w' := (SH, S, T)) rfl ?_
    refine xj_E.adv 1 (pc' := 53) (ls' := [(0, .int a)]) (st' := [.int 1]) (w' := (SH, S, T)) rfl ?_
    exact xj_E.ret rfl rfl rfl rfl (h _ rfl)
  · have hd := hd.2 q1
    have h := fun v e => h v (Eq.trans e (if_neg q1).symm)
    by_cases q2 : a = 2
    · have hd := hd.1 q2
      have h := fun v e => h v (Eq.trans e (if_pos q2).symm)
      refine xj_E.swk q2 ?_
      refine xj_E.adv 1 (pc' := 63) (ls' := [(0, .int a)]) (st' := []) (w' := (SH, S, T)) rfl ?_
      refine xj_E.adv 1 (pc' := 64) (ls' := [(0, .int a)]) (st' := [.int 2]) (w' := (SH, S, T)) rfl ?_
      exact xj_E.ret rfl rfl rfl rfl (h _ rfl)
    · have hd := hd.2 q2
      have h := fun v e => h v (Eq.trans e (if_neg q2).symm)
      by_cases q3 : a = 3
      · have hd := hd.1 q3
        have h := fun v e => h v (Eq.trans e (if_pos q3).symm)
        refine xj_E.swk q3 ?_
        refine xj_E.adv 1 (pc' := 54) (ls' := [(0, .int a)]) (st' := []) (w' := (SH, S, T)) rfl ?_
        refine xj_E.adv 1 (pc' := 55) (ls' := [(0, .int a)]) (st' := [.int 4]) (w' := (SH, S, T)) rfl ?_
        exact xj_E.ret rfl rfl rfl rfl (h _ rfl)
      · have hd := hd.2 q3
        have h := fun v e => h v (Eq.trans e (if_neg q3).symm)
        by_cases q4 : a = 4
        · have hd := hd.1 q4
          have h := fun v e => h v (Eq.trans e (if_pos q4).symm)
          refine xj_E.swk q4 ?_
          refine xj_E.adv 1 (pc' := 54) (ls' := [(0, .int a)]) (st' := []) (w' := (SH, S, T)) rfl ?_
          refine xj_E.adv 1 (pc' := 55) (ls' := [(0, .int a)]) (st' := [.int 4]) (w' := (SH, S, T)) rfl ?_
          exact xj_E.ret rfl rfl rfl rfl (h _ rfl)
        · have hd := hd.2 q4
          have h := fun v e => h v (Eq.trans e (if_neg q4).symm)
          by_cases q5 : a = 5
          · have hd := hd.1 q5
            have h := fun v e => h v (Eq.trans e (if_pos q5).symm)
            refine xj_E.swk q5 ?_
            refine xj_E.adv 1 (pc' := 56) (ls' := [(0, .int a)]) (st' := []) (w' := (SH, S, T)) rfl ?_
            refine xj_E.adv 1 (pc' := 57) (ls' := [(0, .int a)]) (st' := [.int 3]) (w' := (SH, S, T)) rfl ?_
            exact xj_E.ret rfl rfl rfl rfl (h _ rfl)
          · have hd := hd.2 q5
            have h := fun v e => h v (Eq.trans e (if_neg q5).symm)
            by_cases q6 : a = 6
            · have hd := hd.1 q6
              have h := fun v e => h v (Eq.trans e (if_pos q6).symm)
              refine xj_E.swk q6 ?_
              refine xj_E.adv 1 (pc' := 63) (ls' := [(0, .int a)]) (st' := []) (w' := (SH, S, T)) rfl ?_
              refine xj_E.adv 1 (pc' := 64) (ls' := [(0, .int a)]) (st' := [.int 2]) (w' := (SH, S, T)) rfl ?_
              exact xj_E.ret rfl rfl rfl rfl (h _ rfl)
            · have hd := hd.2 q6
              have h := fun v e => h v (Eq.trans e (if_neg q6).symm)
              by_cases q7 : a = 7
              · have hd := hd.1 q7
                have h := fun v e => h v (Eq.trans e (if_pos q7).symm)
                refine xj_E.swk q7 ?_
                refine xj_E.adv 1 (pc' := 58) (ls' := [(0, .int a)]) (st' := []) (w' := (SH, S, T)) rfl ?_
                refine xj_E.adv 1 (pc' := 60) (ls' := [(0, .int a)]) (st' := [.int 6]) (w' := (SH, S, T)) rfl ?_
                exact xj_E.ret rfl rfl rfl rfl (h _ rfl)
              · have hd := hd.2 q7
                have h := fun v e => h v (Eq.trans e (if_neg q7).symm)
                by_cases q8 : a = 8
                · have hd := hd.1 q8
                  have h := fun v e => h v (Eq.trans e (if_pos q8).symm)
                  refine xj_E.swk q8 ?_
                  refine xj_E.adv 1 (pc' := 63) (ls' := [(0, .int a)]) (st' := []) (w' := (SH, S, T)) rfl ?_
                  refine xj_E.adv 1 (pc' := 64) (ls' := [(0, .int a)]) (st' := [.int 2]) (w' := (SH, S, T)) rfl ?_
                  exact xj_E.ret rfl rfl rfl rfl (h _ rfl)
                · have hd := hd.2 q8
                  have h := fun v e => h v (Eq.trans e (if_neg q8).symm)
                  by_cases q9 : a = 9
                  · have hd := hd.1 q9
                    have h := fun v e => h v (Eq.trans e (if_pos q9).symm)
                    refine xj_E.swk q9 ?_
                    refine xj_E.adv 1 (pc' := 61) (ls' := [(0, .int a)]) (st' := []) (w' := (SH, S, T)) rfl ?_
                    refine xj_E.adv 1 (pc' := 62) (ls' := [(0, .int a)]) (st' := [.int 5]) (w' := (SH, S, T)) rfl ?_
                    exact xj_E.ret rfl rfl rfl rfl (h _ rfl)
                  · have hd := hd.2 q9
                    have h := fun v e => h v (Eq.trans e (if_neg q9).symm)
                    refine xj_E.swt rfl (xj_swd (fun z z1 z2 => ?_)) rfl ?_
                    · have hz : z = 1 ∨ z = 2 ∨ z = 3 ∨ z = 4 ∨ z = 5 ∨ z = 6 ∨ z = 7 ∨ z = 8 ∨ z = 9 := by omega
                      rcases hz with rfl | rfl | rfl | rfl | rfl | rfl | rfl | rfl | rfl
                      · exact fun e => q1 (e.trans (by decide))
                      · exact fun e => q2 (e.trans (by decide))
                      · exact fun e => q3 (e.trans (by decide))
                      · exact fun e => q4 (e.trans (by decide))
                      · exact fun e => q5 (e.trans (by decide))
                      · exact fun e => q6 (e.trans (by decide))
                      · exact fun e => q7 (e.trans (by decide))
                      · exact fun e => q8 (e.trans (by decide))
                      · exact fun e => q9 (e.trans (by decide))
                    refine xj_E.adv 1 (pc' := 64) (ls' := [(0, .int a)]) (st' := [.int 2]) (w' := (SH, S, T)) rfl ?_
                    exact xj_E.ret rfl rfl rfl rfl (h _ rfl)
set_option maxRecDepth 100000 in
theorem ok_m_follows {L d : Nat} {xs : Nat → Int32} {S : Nat → Nat → Int32} {T : Nat → Nat → Int64} {P : (Option Value ⊕ Nat) → xj_W → Nat → Nat → Prop} {a b : Int32} (hd : d_m_follows S a b) (h : ∀ v, v = r_m_follows S a b → P (.inl (some (.int v))) (SH, S, T) 0 0) : xj_E (xX L xs) (d + 1) 87 0 [(0, .ref 32), (1, .int a), (2, .int b)] [] (SH, S, T) P := by
  unfold d_m_follows at hd
  unfold r_m_follows at h
  refine xj_E.adv 3 (pc' := (if xj_cmp .ne b 5 = true then 23 else 5)) (ls' := [(0, .ref 32), (1, .int a), (2, .int b)]) (st' := []) (w' := (SH, S, T)) rfl ?_
  refine xj_E.b_ne (fun q => ?_) (fun q => ?_)
  · have hd := hd.1 q
    have h := fun v e => h v (Eq.trans e (if_pos q).symm)
    refine xj_E.adv 3 (pc' := (if xj_cmp .ne b 6 = true then 47 else 29)) (ls' := [(0, .ref 32), (1, .int a), (2, .int b)]) (st' := []) (w' := (SH, S, T)) rfl ?_
    refine xj_E.b_ne (fun q => ?_) (fun q => ?_)
    · have hd := hd.1 q
      have h := fun v e => h v (Eq.trans e (if_pos q).symm)
      refine xj_E.adv 2 (pc' := 49) (ls' := [(0, .ref 32), (1, .int a), (2, .int b)]) (st' := [.int a, .ref 32]) (w' := (SH, S, T)) rfl ?_
      refine xj_E.calli (d := d) (S := SH) rfl rfl rfl rfl rfl (ok_m_isFinal hd.1 ?_)
      intro v e
      subst e
      refine ⟨_, S, T, rfl, rfl, rfl, rfl, ?_⟩
      have hd := hd.2
      refine xj_E.adv 1 (pc' := (if xj_cmp .ne (r_m_isFinal S a) 0 = true then 59 else 55)) (ls' := [(0, .ref 32), (1, .int a), (2, .int b)]) (st' := []) (w' := (SH, S, T)) rfl ?_
      refine xj_E.b_ne (fun q => ?_) (fun q => ?_)
      · have hd := hd.1 q
        have h := fun v e => h v (Eq.trans e (if_pos q).symm)
        refine xj_E.adv 1 (pc' := 60) (ls' := [(0, .ref 32), (1, .int a), (2, .int b)]) (st' := [.int 0]) (w' := (SH, S, T)) rfl ?_
        exact xj_E.ret rfl rfl rfl rfl (h _ rfl)
      · have hd := hd.2 q
        have h := fun v e => h v (Eq.trans e (if_neg q).symm)
        refine xj_E.adv 2 (pc' := 60) (ls' := [(0, .ref 32), (1, .int a), (2, .int b)]) (st' := [.int 1]) (w' := (SH, S, T)) rfl ?_
        exact xj_E.ret rfl rfl rfl rfl (h _ rfl)
    · have hd := hd.2 q
      have h := fun v e => h v (Eq.trans e (if_neg q).symm)
      refine xj_E.adv 3 (pc' := 34) (ls' := [(0, .ref 32), (1, .int a), (2, .int b)]) (st' := [.int a, .ref 47]) (w' := (SH, S, T)) rfl ?_
      refine xj_E.iald rfl rfl hd.1 ?_
      have hd := hd.2
      refine xj_E.adv 2 (pc' := (if xj_cmp .ne (S 47 a.toNatClampNeg) 3 = true then 43 else 39)) (ls' := [(0, .ref 32), (1, .int a), (2, .int b)]) (st' := []) (w' := (SH, S, T)) rfl ?_
      refine xj_E.b_ne (fun q => ?_) (fun q => ?_)
      · have hd := hd.1 q
        have h := fun v e => h v (Eq.trans e (if_pos q).symm)
        refine xj_E.adv 2 (pc' := 60) (ls' := [(0, .ref 32), (1, .int a), (2, .int b)]) (st' := [.int 0]) (w' := (SH, S, T)) rfl ?_
        exact xj_E.ret rfl rfl rfl rfl (h _ rfl)
      · have hd := hd.2 q
        have h := fun v e => h v (Eq.trans e (if_neg q).symm)
        refine xj_E.adv 2 (pc' := 60) (ls' := [(0, .ref 32), (1, .int a), (2, .int b)]) (st' := [.int 1]) (w' := (SH, S, T)) rfl ?_
        exact xj_E.ret rfl rfl rfl rfl (h _ rfl)
  · have hd := hd.2 q
    have h := fun v e => h v (Eq.trans e (if_neg q).symm)
    refine xj_E.adv 3 (pc' := 10) (ls' := [(0, .ref 32), (1, .int a), (2, .int b)]) (st' := [.int a, .ref 47]) (w' := (SH, S, T)) rfl ?_
    refine xj_E.iald rfl rfl hd.1 ?_
    have hd := hd.2
    refine xj_E.adv 2 (pc' := (if xj_cmp .ne (S 47 a.toNatClampNeg) 2 = true then 19 else 15)) (ls' := [(0, .ref 32), (1, .int a), (2, .int b)]) (st' := []) (w' := (SH, S, T)) rfl ?_
    refine xj_E.b_ne (fun q => ?_) (fun q => ?_)
    · have hd := hd.1 q
      have h := fun v e => h v (Eq.trans e (if_pos q).symm)
      refine xj_E.adv 2 (pc' := 60) (ls' := [(0, .ref 32), (1, .int a), (2, .int b)]) (st' := [.int 0]) (w' := (SH, S, T)) rfl ?_
      exact xj_E.ret rfl rfl rfl rfl (h _ rfl)
    · have hd := hd.2 q
      have h := fun v e => h v (Eq.trans e (if_neg q).symm)
      refine xj_E.adv 2 (pc' := 60) (ls' := [(0, .ref 32), (1, .int a), (2, .int b)]) (st' := [.int 1]) (w' := (SH, S, T)) rfl ?_
      exact xj_E.ret rfl rfl rfl rfl (h _ rfl)
set_option maxRecDepth 100000 in
theorem okl_m_satisfied {L d : Nat} {xs : Nat → Int32} {S : Nat → Nat → Int32} {T : Nat → Nat → Int64} {P : (Option Value ⊕ Nat) → xj_W → Nat → Nat → Prop} (n : Nat) : (∀ u1 u2 u3 u4, dl0_m_satisfied n S u1 u2 u3 u4 → (∀ v, v = rl0_m_satisfied n S u1 u2 u3 u4 → P (.inl (some (.int v))) (SH, S, T) 0 0) → xj_E (xX L xs) d 89 5 [(0, .ref 32), (1, .int u1), (2, .int u2), (3, .int u3), (4, .int u4)] [] (SH, S, T) P) := by
  induction n with
  | zero =>
    exact fun _ _ _ _ hd _ => hd.elim
  | succ n ih =>
    intro u1 u2 u3 u4 hd h
    refine xj_E.adv 4 (pc' := 12) (ls' := [(0, .ref 32), (1, .int u1), (2, .int u2), (3, .int u3), (4, .int u4)]) (st' := [.int u1, .ref 38, .int u4]) (w' := (SH, S, T)) rfl ?_
    refine xj_E.iald rfl rfl hd.1 ?_
    have hd := hd.2
    refine xj_E.adv 1 (pc' := (if xj_cmp .ge u4 (S 38 u1.toNatClampNeg) = true then 51 else 16)) (ls' := [(0, .ref 32), (1, .int u1), (2, .int u2), (3, .int u3), (4, .int u4)]) (st' := []) (w' := (SH, S, T)) rfl ?_
    refine xj_E.b_ge (fun q => ?_) (fun q => ?_)
    · have hd := hd.1 q
      have h := fun v e => h v (Eq.trans e (if_pos q).symm)
      refine xj_E.adv 2 (pc' := (if xj_cmp .eq u3 0 = true then 151 else 55)) (ls' := [(0, .ref 32), (1, .int u1), (2, .int u2), (3, .int u3), (4, .int u4)]) (st' := []) (w' := (SH, S, T)) rfl ?_
      refine xj_E.b_eq (fun q => ?_) (fun q => ?_)
      · have hd := hd.1 q
        have h := fun v e => h v (Eq.trans e (if_pos q).symm)
        refine xj_E.adv 1 (pc' := 152) (ls' := [(0, .ref 32), (1, .int u1), (2, .int u2), (3, .int u3), (4, .int u4)]) (st' := [.int u3]) (w' := (SH, S, T)) rfl ?_
        exact xj_E.ret rfl rfl rfl (if_pos hd) (h _ rfl)
      · have hd := hd.2 q
        have h := fun v e => h v (Eq.trans e (if_neg q).symm)
        refine xj_E.adv 3 (pc' := 60) (ls' := [(0, .ref 32), (1, .int u1), (2, .int u2), (3, .int u3), (4, .int u4)]) (st' := [.int u1, .ref 41]) (w' := (SH, S, T)) rfl ?_
        refine xj_E.bald rfl rfl hd.1 ?_
        have hd := hd.2
        refine xj_E.adv 1 (pc' := (if xj_cmp .eq (S 41 u1.toNatClampNeg) 0 = true then 151 else 64)) (ls' := [(0, .ref 32), (1, .int u1), (2, .int u2), (3, .int u3), (4, .int u4)]) (st' := []) (w' := (SH, S, T)) rfl ?_
        refine xj_E.b_eq (fun q => ?_) (fun q => ?_)
        · have hd := hd.1 q
          have h := fun v e => h v (Eq.trans e (if_pos q).symm)
          refine xj_E.adv 1 (pc' := 152) (ls' := [(0, .ref 32), (1, .int u1), (2, .int u2), (3, .int u3), (4, .int u4)]) (st' := [.int u3]) (w' := (SH, S, T)) rfl ?_
          exact xj_E.ret rfl rfl rfl (if_pos hd) (h _ rfl)
        · have hd := hd.2 q
          have h := fun v e => h v (Eq.trans e (if_neg q).symm)
          refine xj_E.adv 5 (pc' := 73) (ls' := [(0, .ref 32), (1, .int u1), (2, .int u2), (3, .int u3), (4, .int u4)]) (st' := [.int u1, .ref 42, .ref 50]) (w' := (SH, S, T)) rfl ?_
          refine xj_E.iald rfl rfl hd.1 ?_
          have hd := hd.2
          refine xj_E.iald rfl rfl hd.1 ?_
          have hd := hd.2
          refine xj_E.adv 4 (pc' := 82) (ls' := [(4, .int (S 50 (S 42 u1.toNatClampNeg).toNatClampNeg)), (0, .ref 32), (1, .int u1), (2, .int u2), (3, .int u3)]) (st' := [.int u1, .ref 43]) (w' := (SH, S, T)) rfl ?_
          refine xj_E.iald rfl rfl hd.1 ?_
          have hd := hd.2
          refine xj_E.adv 1 (pc' := (if xj_cmp .ne (S 43 u1.toNatClampNeg) 0 = true then 105 else 86)) (ls' := [(4, .int (S 50 (S 42 u1.toNatClampNeg).toNatClampNeg)), (0, .ref 32), (1, .int u1), (2, .int u2), (3, .int u3)]) (st' := []) (w' := (SH, S, T)) rfl ?_
          refine xj_E.b_ne (fun q => ?_) (fun q => ?_)
          · have hd := hd.1 q
            have h := fun v e => h v (Eq.trans e (if_pos q).symm)
            refine xj_E.adv 3 (pc' := 110) (ls' := [(4, .int (S 50 (S 42 u1.toNatClampNeg).toNatClampNeg)), (0, .ref 32), (1, .int u1), (2, .int u2), (3, .int u3)]) (st' := [.int u1, .ref 43]) (w' := (SH, S, T)) rfl ?_
            refine xj_E.iald rfl rfl hd.1 ?_
            have hd := hd.2
            refine xj_E.adv 2 (pc' := (if xj_cmp .ne (S 43 u1.toNatClampNeg) 1 = true then 134 else 115)) (ls' := [(4, .int (S 50 (S 42 u1.toNatClampNeg).toNatClampNeg)), (0, .ref 32), (1, .int u1), (2, .int u2), (3, .int u3)]) (st' := []) (w' := (SH, S, T)) rfl ?_
            refine xj_E.b_ne (fun q => ?_) (fun q => ?_)
            · have hd := hd.1 q
              have h := fun v e => h v (Eq.trans e (if_pos q).symm)
              refine xj_E.adv 4 (pc' := 141) (ls' := [(4, .int (S 50 (S 42 u1.toNatClampNeg).toNatClampNeg)), (0, .ref 32), (1, .int u1), (2, .int u2), (3, .int u3)]) (st' := [.int u1, .ref 44, .int (S 50 (S 42 u1.toNatClampNeg).toNatClampNeg)]) (w' := (SH, S, T)) rfl ?_
              refine xj_E.iald rfl rfl hd.1 ?_
              have hd := hd.2
              refine xj_E.adv 1 (pc' := (if xj_cmp .le (S 50 (S 42 u1.toNatClampNeg).toNatClampNeg) (S 44 u1.toNatClampNeg) = true then 149 else 145)) (ls' := [(4, .int (S 50 (S 42 u1.toNatClampNeg).toNatClampNeg)), (0, .ref 32), (1, .int u1), (2, .int u2), (3, .int u3)]) (st' := []) (w' := (SH, S, T)) rfl ?_
              refine xj_E.b_le (fun q => ?_) (fun q => ?_)
              · have hd := hd.1 q
                have h := fun v e => h v (Eq.trans e (if_pos q).symm)
                refine xj_E.adv 3 (pc' := 152) (ls' := [(3, .int 0), (4, .int (S 50 (S 42 u1.toNatClampNeg).toNatClampNeg)), (0, .ref 32), (1, .int u1), (2, .int u2)]) (st' := [.int 0]) (w' := (SH, S, T)) rfl ?_
                exact xj_E.ret rfl rfl rfl rfl (h _ rfl)
              · have hd := hd.2 q
                have h := fun v e => h v (Eq.trans e (if_neg q).symm)
                refine xj_E.adv 4 (pc' := 152) (ls' := [(3, .int 1), (4, .int (S 50 (S 42 u1.toNatClampNeg).toNatClampNeg)), (0, .ref 32), (1, .int u1), (2, .int u2)]) (st' := [.int 1]) (w' := (SH, S, T)) rfl ?_
                exact xj_E.ret rfl rfl rfl rfl (h _ rfl)
            · have hd := hd.2 q
              have h := fun v e => h v (Eq.trans e (if_neg q).symm)
              refine xj_E.adv 4 (pc' := 122) (ls' := [(4, .int (S 50 (S 42 u1.toNatClampNeg).toNatClampNeg)), (0, .ref 32), (1, .int u1), (2, .int u2), (3, .int u3)]) (st' := [.int u1, .ref 44, .int (S 50 (S 42 u1.toNatClampNeg).toNatClampNeg)]) (w' := (SH, S, T)) rfl ?_
              refine xj_E.iald rfl rfl hd.1 ?_
              have hd := hd.2
              refine xj_E.adv 1 (pc' := (if xj_cmp .ne (S 50 (S 42 u1.toNatClampNeg).toNatClampNeg) (S 44 u1.toNatClampNeg) = true then 130 else 126)) (ls' := [(4, .int (S 50 (S 42 u1.toNatClampNeg).toNatClampNeg)), (0, .ref 32), (1, .int u1), (2, .int u2), (3, .int u3)]) (st' := []) (w' := (SH, S, T)) rfl ?_
              refine xj_E.b_ne (fun q => ?_) (fun q => ?_)
              · have hd := hd.1 q
                have h := fun v e => h v (Eq.trans e (if_pos q).symm)
                refine xj_E.adv 4 (pc' := 152) (ls' := [(3, .int 0), (4, .int (S 50 (S 42 u1.toNatClampNeg).toNatClampNeg)), (0, .ref 32), (1, .int u1), (2, .int u2)]) (st' := [.int 0]) (w' := (SH, S, T)) rfl ?_
                exact xj_E.ret rfl rfl rfl rfl (h _ rfl)
              · have hd := hd.2 q
                have h := fun v e => h v (Eq.trans e (if_neg q).symm)
                refine xj_E.adv 4 (pc' := 152) (ls' := [(3, .int 1), (4, .int (S 50 (S 42 u1.toNatClampNeg).toNatClampNeg)), (0, .ref 32), (1, .int u1), (2, .int u2)]) (st' := [.int 1]) (w' := (SH, S, T)) rfl ?_
                exact xj_E.ret rfl rfl rfl rfl (h _ rfl)
          · have hd := hd.2 q
            have h := fun v e => h v (Eq.trans e (if_neg q).symm)
            refine xj_E.adv 4 (pc' := 93) (ls' := [(4, .int (S 50 (S 42 u1.toNatClampNeg).toNatClampNeg)), (0, .ref 32), (1, .int u1), (2, .int u2), (3, .int u3)]) (st' := [.int u1, .ref 44, .int (S 50 (S 42 u1.toNatClampNeg).toNatClampNeg)]) (w' := (SH, S, T)) rfl ?_
            refine xj_E.iald rfl rfl hd.1 ?_
            have hd := hd.2
            refine xj_E.adv 1 (pc' := (if xj_cmp .ge (S 50 (S 42 u1.toNatClampNeg).toNatClampNeg) (S 44 u1.toNatClampNeg) = true then 101 else 97)) (ls' := [(4, .int (S 50 (S 42 u1.toNatClampNeg).toNatClampNeg)), (0, .ref 32), (1, .int u1), (2, .int u2), (3, .int u3)]) (st' := []) (w' := (SH, S, T)) rfl ?_
            refine xj_E.b_ge (fun q => ?_) (fun q => ?_)
            · have hd := hd.1 q
              have h := fun v e => h v (Eq.trans e (if_pos q).symm)
              refine xj_E.adv 4 (pc' := 152) (ls' := [(3, .int 0), (4, .int (S 50 (S 42 u1.toNatClampNeg).toNatClampNeg)), (0, .ref 32), (1, .int u1), (2, .int u2)]) (st' := [.int 0]) (w' := (SH, S, T)) rfl ?_
              exact xj_E.ret rfl rfl rfl rfl (h _ rfl)
            · have hd := hd.2 q
              have h := fun v e => h v (Eq.trans e (if_neg q).symm)
              refine xj_E.adv 4 (pc' := 152) (ls' := [(3, .int 1), (4, .int (S 50 (S 42 u1.toNatClampNeg).toNatClampNeg)), (0, .ref 32), (1, .int u1), (2, .int u2)]) (st' := [.int 1]) (w' := (SH, S, T)) rfl ?_
              exact xj_E.ret rfl rfl rfl rfl (h _ rfl)
    · have hd := hd.2 q
      have h := fun v e => h v (Eq.trans e (if_neg q).symm)
      refine xj_E.adv 2 (pc' := (if xj_cmp .eq u3 0 = true then 43 else 20)) (ls' := [(0, .ref 32), (1, .int u1), (2, .int u2), (3, .int u3), (4, .int u4)]) (st' := []) (w' := (SH, S, T)) rfl ?_
      refine xj_E.b_eq (fun q => ?_) (fun q => ?_)
      · have hd := hd.1 q
        have h := fun v e => h v (Eq.trans e (if_pos q).symm)
        refine xj_E.adv 4 (pc' := 5) (ls' := [(4, .int (u4 + 1)), (3, .int 0), (0, .ref 32), (1, .int u1), (2, .int u2)]) (st' := []) (w' := (SH, S, T)) rfl ?_
        refine xj_E.loc [0, 1, 2, 3, 4] xhth rfl (show xj_E (xX L xs) d 89 5 [(0, .ref 32), (1, .int u1), (2, .int u2), (3, .int 0), (4, .int (u4 + 1))] [] (SH, S, T) P from ?_)
        exact (ih) _ _ _ _ hd h
      · have hd := hd.2 q
        have h := fun v e => h v (Eq.trans e (if_neg q).symm)
        refine xj_E.adv 3 (pc' := 25) (ls' := [(0, .ref 32), (1, .int u1), (2, .int u2), (3, .int u3), (4, .int u4)]) (st' := [.int u2, .ref 49]) (w' := (SH, S, T)) rfl ?_
        refine xj_E.iald rfl rfl hd.1 ?_
        have hd := hd.2
        refine xj_E.adv 10 (pc' := (if xj_cmp .ne (((S 49 u2.toNatClampNeg) >>> (((2 * u1) + u4) &&& 31)) &&& 1) 1 = true then 43 else 39)) (ls' := [(0, .ref 32), (1, .int u1), (2, .int u2), (3, .int u3), (4, .int u4)]) (st' := []) (w' := (SH, S, T)) rfl ?_
        refine xj_E.b_ne (fun q => ?_) (fun q => ?_)
        · have hd := hd.1 q
          have h := fun v e => h v (Eq.trans e (if_pos q).symm)
          refine xj_E.adv 4 (pc' := 5) (ls' := [(4, .int (u4 + 1)), (3, .int 0), (0, .ref 32), (1, .int u1), (2, .int u2)]) (st' := []) (w' := (SH, S, T)) rfl ?_
          refine xj_E.loc [0, 1, 2, 3, 4] xhth rfl (show xj_E (xX L xs) d 89 5 [(0, .ref 32), (1, .int u1), (2, .int u2), (3, .int 0), (4, .int (u4 + 1))] [] (SH, S, T) P from ?_)
          exact (ih) _ _ _ _ hd h
        · have hd := hd.2 q
          have h := fun v e => h v (Eq.trans e (if_neg q).symm)
          refine xj_E.adv 5 (pc' := 5) (ls' := [(4, .int (u4 + 1)), (3, .int 1), (0, .ref 32), (1, .int u1), (2, .int u2)]) (st' := []) (w' := (SH, S, T)) rfl ?_
          refine xj_E.loc [0, 1, 2, 3, 4] xhth rfl (show xj_E (xX L xs) d 89 5 [(0, .ref 32), (1, .int u1), (2, .int u2), (3, .int 1), (4, .int (u4 + 1))] [] (SH, S, T) P from ?_)
          exact (ih) _ _ _ _ hd h
set_option maxRecDepth 100000 in
theorem ok_m_satisfied {L d : Nat} {xs : Nat → Int32} {S : Nat → Nat → Int32} {T : Nat → Nat → Int64} {P : (Option Value ⊕ Nat) → xj_W → Nat → Nat → Prop} {a b : Int32} (hd : d_m_satisfied S a b) (h : ∀ v, v = r_m_satisfied S a b → P (.inl (some (.int v))) (SH, S, T) 0 0) : xj_E (xX L xs) d 89 0 [(0, .ref 32), (1, .int a), (2, .int b)] [] (SH, S, T) P := by
  unfold d_m_satisfied at hd
  unfold r_m_satisfied at h
  refine xj_E.adv 4 (pc' := 5) (ls' := [(4, .int 0), (3, .int 1), (0, .ref 32), (1, .int a), (2, .int b)]) (st' := []) (w' := (SH, S, T)) rfl ?_
  refine xj_E.loc [0, 1, 2, 3, 4] xhth rfl (show xj_E (xX L xs) d 89 5 [(0, .ref 32), (1, .int a), (2, .int b), (3, .int 1), (4, .int 0)] [] (SH, S, T) P from ?_)
  exact (okl_m_satisfied 200) _ _ _ _ hd h
set_option maxRecDepth 100000 in
theorem okl_m_someSatisfied {L d : Nat} {xs : Nat → Int32} {S : Nat → Nat → Int32} {T : Nat → Nat → Int64} {P : (Option Value ⊕ Nat) → xj_W → Nat → Nat → Prop} (n : Nat) : (∀ u1 u2 u3 u4, dl0_m_someSatisfied n S u1 u2 u3 u4 → (∀ v, v = rl0_m_someSatisfied n S u1 u2 u3 u4 → P (.inl (some (.int v))) (SH, S, T) 0 0) → xj_E (xX L xs) (d + 1) 90 5 [(0, .ref 32), (1, .int u1), (2, .int u2), (3, .int u3), (4, .int u4)] [] (SH, S, T) P) := by
  induction n with
  | zero =>
    exact fun _ _ _ _ hd _ => hd.elim
  | succ n ih =>
    intro u1 u2 u3 u4 hd h
    refine xj_E.adv 4 (pc' := (if xj_cmp .ge u4 (S 32 5) = true then 67 else 14)) (ls' := [(0, .ref 32), (1, .int u1), (2, .int u2), (3, .int u3), (4, .int u4)]) (st' := []) (w' := (SH, S, T)) rfl ?_
    refine xj_E.b_ge (fun q => ?_) (fun q => ?_)
    · have hd := hd.1 q
      have h := fun v e => h v (Eq.trans e (if_pos q).symm)
      refine xj_E.adv 1 (pc' := 68) (ls' := [(0, .ref 32), (1, .int u1), (2, .int u2), (3, .int u3), (4, .int u4)]) (st' := [.int u3]) (w' := (SH, S, T)) rfl ?_
      exact xj_E.ret rfl rfl rfl (if_pos hd) (h _ rfl)
    · have hd := hd.2 q
      have h := fun v e => h v (Eq.trans e (if_neg q).symm)
      refine xj_E.adv 2 (pc' := (if xj_cmp .ne u3 0 = true then 55 else 18)) (ls' := [(0, .ref 32), (1, .int u1), (2, .int u2), (3, .int u3), (4, .int u4)]) (st' := []) (w' := (SH, S, T)) rfl ?_
      refine xj_E.b_ne (fun q => ?_) (fun q => ?_)
      · have hd := hd.1 q
        have h := fun v e => h v (Eq.trans e (if_pos q).symm)
        refine xj_E.adv 5 (pc' := 5) (ls' := [(4, .int (u4 + 1)), (3, .int 1), (0, .ref 32), (1, .int u1), (2, .int u2)]) (st' := []) (w' := (SH, S, T)) rfl ?_
        refine xj_E.loc [0, 1, 2, 3, 4] xhth rfl (show xj_E (xX L xs) (d + 1) 90 5 [(0, .ref 32), (1, .int u1), (2, .int u2), (3, .int 1), (4, .int (u4 + 1))] [] (SH, S, T) P from ?_)
        exact (ih) _ _ _ _ hd h
      · have hd := hd.2 q
        have h := fun v e => h v (Eq.trans e (if_neg q).symm)
        refine xj_E.adv 3 (pc' := 24) (ls' := [(0, .ref 32), (1, .int u1), (2, .int u2), (3, .int u3), (4, .int u4)]) (st' := [.int u4, .ref 36]) (w' := (SH, S, T)) rfl ?_
        refine xj_E.iald rfl rfl hd.1 ?_
        have hd := hd.2
        refine xj_E.adv 3 (pc' := 30) (ls' := [(0, .ref 32), (1, .int u1), (2, .int u2), (3, .int u3), (4, .int u4)]) (st' := [.int u1, .ref 45, .int (S 36 u4.toNatClampNeg)]) (w' := (SH, S, T)) rfl ?_
        refine xj_E.iald rfl rfl hd.1 ?_
        have hd := hd.2
        refine xj_E.adv 1 (pc' := (if xj_cmp .ne (S 36 u4.toNatClampNeg) (S 45 u1.toNatClampNeg) = true then 59 else 34)) (ls' := [(0, .ref 32), (1, .int u1), (2, .int u2), (3, .int u3), (4, .int u4)]) (st' := []) (w' := (SH, S, T)) rfl ?_
        refine xj_E.b_ne (fun q => ?_) (fun q => ?_)
        · have hd := hd.1 q
          have h := fun v e => h v (Eq.trans e (if_pos q).symm)
          refine xj_E.adv 4 (pc' := 5) (ls' := [(4, .int (u4 + 1)), (3, .int 0), (0, .ref 32), (1, .int u1), (2, .int u2)]) (st' := []) (w' := (SH, S, T)) rfl ?_
          refine xj_E.loc [0, 1, 2, 3, 4] xhth rfl (show xj_E (xX L xs) (d + 1) 90 5 [(0, .ref 32), (1, .int u1), (2, .int u2), (3, .int 0), (4, .int (u4 + 1))] [] (SH, S, T) P from ?_)
          exact (ih) _ _ _ _ hd h
        · have hd := hd.2 q
          have h := fun v e => h v (Eq.trans e (if_neg q).symm)
          refine xj_E.adv 3 (pc' := 40) (ls' := [(0, .ref 32), (1, .int u1), (2, .int u2), (3, .int u3), (4, .int u4)]) (st' := [.int u4, .ref 37]) (w' := (SH, S, T)) rfl ?_
          refine xj_E.bald rfl rfl hd.1 ?_
          have hd := hd.2
          refine xj_E.adv 2 (pc' := (if xj_cmp .ne (S 37 u4.toNatClampNeg) u2 = true then 59 else 45)) (ls' := [(0, .ref 32), (1, .int u1), (2, .int u2), (3, .int u3), (4, .int u4)]) (st' := []) (w' := (SH, S, T)) rfl ?_
          refine xj_E.b_ne (fun q => ?_) (fun q => ?_)
          · have hd := hd.1 q
            have h := fun v e => h v (Eq.trans e (if_pos q).symm)
            refine xj_E.adv 4 (pc' := 5) (ls' := [(4, .int (u4 + 1)), (3, .int 0), (0, .ref 32), (1, .int u1), (2, .int u2)]) (st' := []) (w' := (SH, S, T)) rfl ?_
            refine xj_E.loc [0, 1, 2, 3, 4] xhth rfl (show xj_E (xX L xs) (d + 1) 90 5 [(0, .ref 32), (1, .int u1), (2, .int u2), (3, .int 0), (4, .int (u4 + 1))] [] (SH, S, T) P from ?_)
            exact (ih) _ _ _ _ hd h
          · have hd := hd.2 q
            have h := fun v e => h v (Eq.trans e (if_neg q).symm)
            refine xj_E.adv 3 (pc' := 49) (ls' := [(0, .ref 32), (1, .int u1), (2, .int u2), (3, .int u3), (4, .int u4)]) (st' := [.int u1, .int u4, .ref 32]) (w' := (SH, S, T)) rfl ?_
            refine xj_E.calli (d := d) (S := SH) rfl rfl rfl rfl rfl (ok_m_satisfied hd.1 ?_)
            intro v e
            subst e
            refine ⟨_, S, T, rfl, rfl, rfl, rfl, ?_⟩
            have hd := hd.2
            refine xj_E.adv 1 (pc' := (if xj_cmp .eq (r_m_satisfied S u4 u1) 0 = true then 59 else 55)) (ls' := [(0, .ref 32), (1, .int u1), (2, .int u2), (3, .int u3), (4, .int u4)]) (st' := []) (w' := (SH, S, T)) rfl ?_
            refine xj_E.b_eq (fun q => ?_) (fun q => ?_)
            · have hd := hd.1 q
              have h := fun v e => h v (Eq.trans e (if_pos q).symm)
              refine xj_E.adv 4 (pc' := 5) (ls' := [(4, .int (u4 + 1)), (3, .int 0), (0, .ref 32), (1, .int u1), (2, .int u2)]) (st' := []) (w' := (SH, S, T)) rfl ?_
              refine xj_E.loc [0, 1, 2, 3, 4] xhth rfl (show xj_E (xX L xs) (d + 1) 90 5 [(0, .ref 32), (1, .int u1), (2, .int u2), (3, .int 0), (4, .int (u4 + 1))] [] (SH, S, T) P from ?_)
              exact (ih) _ _ _ _ hd h
            · have hd := hd.2 q
              have h := fun v e => h v (Eq.trans e (if_neg q).symm)
              refine xj_E.adv 5 (pc' := 5) (ls' := [(4, .int (u4 + 1)), (3, .int 1), (0, .ref 32), (1, .int u1), (2, .int u2)]) (st' := []) (w' := (SH, S, T)) rfl ?_
              refine xj_E.loc [0, 1, 2, 3, 4] xhth rfl (show xj_E (xX L xs) (d + 1) 90 5 [(0, .ref 32), (1, .int u1), (2, .int u2), (3, .int 1), (4, .int (u4 + 1))] [] (SH, S, T) P from ?_)
              exact (ih) _ _ _ _ hd h
set_option maxRecDepth 100000 in
theorem ok_m_someSatisfied {L d : Nat} {xs : Nat → Int32} {S : Nat → Nat → Int32} {T : Nat → Nat → Int64} {P : (Option Value ⊕ Nat) → xj_W → Nat → Nat → Prop} {a b : Int32} (hd : d_m_someSatisfied S a b) (h : ∀ v, v = r_m_someSatisfied S a b → P (.inl (some (.int v))) (SH, S, T) 0 0) : xj_E (xX L xs) (d + 1) 90 0 [(0, .ref 32), (1, .int a), (2, .int b)] [] (SH, S, T) P := by
  unfold d_m_someSatisfied at hd
  unfold r_m_someSatisfied at h
  refine xj_E.adv 4 (pc' := 5) (ls' := [(4, .int 0), (3, .int 0), (0, .ref 32), (1, .int a), (2, .int b)]) (st' := []) (w' := (SH, S, T)) rfl ?_
  refine xj_E.loc [0, 1, 2, 3, 4] xhth rfl (show xj_E (xX L xs) (d + 1) 90 5 [(0, .ref 32), (1, .int a), (2, .int b), (3, .int 0), (4, .int 0)] [] (SH, S, T) P from ?_)
  exact (okl_m_someSatisfied 200) _ _ _ _ hd h
set_option maxRecDepth 100000 in
theorem okl_m_settled {L d : Nat} {xs : Nat → Int32} {S : Nat → Nat → Int32} {T : Nat → Nat → Int64} {P : (Option Value ⊕ Nat) → xj_W → Nat → Nat → Prop} (n : Nat) : (∀ u1 u2 u3, dl0_m_settled n S u1 u2 u3 → (∀ v, v = rl0_m_settled n S u1 u2 u3 → P (.inl (some (.int v))) (SH, S, T) 0 0) → xj_E (xX L xs) (d + 1) 91 4 [(0, .ref 32), (1, .int u1), (2, .int u2), (3, .int u3)] [] (SH, S, T) P) := by
  induction n with
  | zero =>
    exact fun _ _ _ hd _ => hd.elim
  | succ n ih =>
    intro u1 u2 u3 hd h
    refine xj_E.adv 4 (pc' := (if xj_cmp .ge u3 (S 32 17) = true then 104 else 12)) (ls' := [(0, .ref 32), (1, .int u1), (2, .int u2), (3, .int u3)]) (st' := []) (w' := (SH, S, T)) rfl ?_
    refine xj_E.b_ge (fun q => ?_) (fun q => ?_)
    · have hd := hd.1 q
      have h := fun v e => h v (Eq.trans e (if_pos q).symm)
      refine xj_E.adv 1 (pc' := 105) (ls' := [(0, .ref 32), (1, .int u1), (2, .int u2), (3, .int u3)]) (st' := [.int u2]) (w' := (SH, S, T)) rfl ?_
      exact xj_E.ret rfl rfl rfl (if_pos hd) (h _ rfl)
    · have hd := hd.2 q
      have h := fun v e => h v (Eq.trans e (if_neg q).symm)
      refine xj_E.adv 3 (pc' := 17) (ls' := [(0, .ref 32), (1, .int u1), (2, .int u2), (3, .int u3)]) (st' := [.int u3, .ref 46]) (w' := (SH, S, T)) rfl ?_
      refine xj_E.iald rfl rfl hd.1 ?_
      have hd := hd.2
      refine xj_E.adv 2 (pc' := (if xj_cmp .eq (S 46 u3.toNatClampNeg) u1 = true then 25 else 22)) (ls' := [(0, .ref 32), (1, .int u1), (2, .int u2), (3, .int u3)]) (st' := []) (w' := (SH, S, T)) rfl ?_
      refine xj_E.b_eq (fun q => ?_) (fun q => ?_)
      · have hd := hd.1 q
        have h := fun v e => h v (Eq.trans e (if_pos q).symm)
        refine xj_E.adv 3 (pc' := 30) (ls' := [(0, .ref 32), (1, .int u1), (2, .int u2), (3, .int u3)]) (st' := [.int u3, .ref 47]) (w' := (SH, S, T)) rfl ?_
        refine xj_E.iald rfl rfl hd.1 ?_
        have hd := hd.2
        refine xj_E.adv 1 (pc' := (if xj_cmp .eq (S 47 u3.toNatClampNeg) 0 = true then 44 else 34)) (ls' := [(0, .ref 32), (1, .int u1), (2, .int u2), (3, .int u3)]) (st' := []) (w' := (SH, S, T)) rfl ?_
        refine xj_E.b_eq (fun q => ?_) (fun q => ?_)
        · have hd := hd.1 q
          have h := fun v e => h v (Eq.trans e (if_pos q).symm)
          refine xj_E.adv 6 (pc' := 56) (ls' := [(4, .int 1), (0, .ref 32), (1, .int u1), (2, .int u2), (3, .int u3)]) (st' := [.int u3, .ref 47]) (w' := (SH, S, T)) rfl ?_
          refine xj_E.iald rfl rfl hd.1 ?_
          have hd := hd.2
          refine xj_E.adv 2 (pc' := (if xj_cmp .eq (S 47 u3.toNatClampNeg) 2 = true then 96 else 61)) (ls' := [(4, .int 1), (0, .ref 32), (1, .int u1), (2, .int u2), (3, .int u3)]) (st' := []) (w' := (SH, S, T)) rfl ?_
          refine xj_E.b_eq (fun q => ?_) (fun q => ?_)
          · have hd := hd.1 q
            have h := fun v e => h v (Eq.trans e (if_pos q).symm)
            refine xj_E.adv 4 (pc' := 4) (ls' := [(3, .int (u3 + 1)), (2, .int 0), (4, .int 1), (0, .ref 32), (1, .int u1)]) (st' := []) (w' := (SH, S, T)) rfl ?_
            refine xj_E.loc [0, 1, 2, 3] xhth rfl (show xj_E (xX L xs) (d + 1) 91 4 [(0, .ref 32), (1, .int u1), (2, .int 0), (3, .int (u3 + 1))] [] (SH, S, T) P from ?_)
            exact (ih) _ _ _ hd h
          · have hd := hd.2 q
            have h := fun v e => h v (Eq.trans e (if_neg q).symm)
            refine xj_E.adv 3 (pc' := 66) (ls' := [(4, .int 1), (0, .ref 32), (1, .int u1), (2, .int u2), (3, .int u3)]) (st' := [.int u3, .ref 47]) (w' := (SH, S, T)) rfl ?_
            refine xj_E.iald rfl rfl hd.1 ?_
            have hd := hd.2
            refine xj_E.adv 2 (pc' := (if xj_cmp .eq (S 47 u3.toNatClampNeg) 3 = true then 96 else 71)) (ls' := [(4, .int 1), (0, .ref 32), (1, .int u1), (2, .int u2), (3, .int u3)]) (st' := []) (w' := (SH, S, T)) rfl ?_
            refine xj_E.b_eq (fun q => ?_) (fun q => ?_)
            · have hd := hd.1 q
              have h := fun v e => h v (Eq.trans e (if_pos q).symm)
              refine xj_E.adv 4 (pc' := 4) (ls' := [(3, .int (u3 + 1)), (2, .int 0), (4, .int 1), (0, .ref 32), (1, .int u1)]) (st' := []) (w' := (SH, S, T)) rfl ?_
              refine xj_E.loc [0, 1, 2, 3] xhth rfl (show xj_E (xX L xs) (d + 1) 91 4 [(0, .ref 32), (1, .int u1), (2, .int 0), (3, .int (u3 + 1))] [] (SH, S, T) P from ?_)
              exact (ih) _ _ _ hd h
            · have hd := hd.2 q
              have h := fun v e => h v (Eq.trans e (if_neg q).symm)
              refine xj_E.adv 3 (pc' := 76) (ls' := [(4, .int 1), (0, .ref 32), (1, .int u1), (2, .int u2), (3, .int u3)]) (st' := [.int u3, .ref 47]) (w' := (SH, S, T)) rfl ?_
              refine xj_E.iald rfl rfl hd.1 ?_
              have hd := hd.2
              refine xj_E.adv 2 (pc' := (if xj_cmp .eq (S 47 u3.toNatClampNeg) 6 = true then 96 else 82)) (ls' := [(4, .int 1), (0, .ref 32), (1, .int u1), (2, .int u2), (3, .int u3)]) (st' := []) (w' := (SH, S, T)) rfl ?_
              refine xj_E.b_eq (fun q => ?_) (fun q => ?_)
              · have hd := hd.1 q
                have h := fun v e => h v (Eq.trans e (if_pos q).symm)
                refine xj_E.adv 4 (pc' := 4) (ls' := [(3, .int (u3 + 1)), (2, .int 0), (4, .int 1), (0, .ref 32), (1, .int u1)]) (st' := []) (w' := (SH, S, T)) rfl ?_
                refine xj_E.loc [0, 1, 2, 3] xhth rfl (show xj_E (xX L xs) (d + 1) 91 4 [(0, .ref 32), (1, .int u1), (2, .int 0), (3, .int (u3 + 1))] [] (SH, S, T) P from ?_)
                exact (ih) _ _ _ hd h
              · have hd := hd.2 q
                have h := fun v e => h v (Eq.trans e (if_neg q).symm)
                refine xj_E.adv 5 (pc' := 90) (ls' := [(4, .int 1), (0, .ref 32), (1, .int u1), (2, .int u2), (3, .int u3)]) (st' := [.int 2, .int u3, .ref 32]) (w' := (SH, S, T)) rfl ?_
                refine xj_E.calli (d := d) (S := SH) rfl rfl rfl rfl rfl (ok_m_hasFlag hd.1 ?_)
                intro v e
                subst e
                refine ⟨_, S, T, rfl, rfl, rfl, rfl, ?_⟩
                have hd := hd.2
                refine xj_E.adv 1 (pc' := (if xj_cmp .eq (r_m_hasFlag S u3 2) 0 = true then 98 else 96)) (ls' := [(4, .int 1), (0, .ref 32), (1, .int u1), (2, .int u2), (3, .int u3)]) (st' := []) (w' := (SH, S, T)) rfl ?_
                refine xj_E.b_eq (fun q => ?_) (fun q => ?_)
                · have hd := hd.1 q
                  have h := fun v e => h v (Eq.trans e (if_pos q).symm)
                  refine xj_E.adv 2 (pc' := 4) (ls' := [(3, .int (u3 + 1)), (4, .int 1), (0, .ref 32), (1, .int u1), (2, .int u2)]) (st' := []) (w' := (SH, S, T)) rfl ?_
                  refine xj_E.loc [0, 1, 2, 3] xhth rfl (show xj_E (xX L xs) (d + 1) 91 4 [(0, .ref 32), (1, .int u1), (2, .int u2), (3, .int (u3 + 1))] [] (SH, S, T) P from ?_)
                  exact (ih) _ _ _ hd h
                · have hd := hd.2 q
                  have h := fun v e => h v (Eq.trans e (if_neg q).symm)
                  refine xj_E.adv 4 (pc' := 4) (ls' := [(3, .int (u3 + 1)), (2, .int 0), (4, .int 1), (0, .ref 32), (1, .int u1)]) (st' := []) (w' := (SH, S, T)) rfl ?_
                  refine xj_E.loc [0, 1, 2, 3] xhth rfl (show xj_E (xX L xs) (d + 1) 91 4 [(0, .ref 32), (1, .int u1), (2, .int 0), (3, .int (u3 + 1))] [] (SH, S, T) P from ?_)
                  exact (ih) _ _ _ hd h
        · have hd := hd.2 q
          have h := fun v e => h v (Eq.trans e (if_neg q).symm)
          refine xj_E.adv 3 (pc' := 39) (ls' := [(0, .ref 32), (1, .int u1), (2, .int u2), (3, .int u3)]) (st' := [.int u3, .ref 47]) (w' := (SH, S, T)) rfl ?_
          refine xj_E.iald rfl rfl hd.1 ?_
          have hd := hd.2
          refine xj_E.adv 2 (pc' := (if xj_cmp .ne (S 47 u3.toNatClampNeg) 1 = true then 48 else 44)) (ls' := [(0, .ref 32), (1, .int u1), (2, .int u2), (3, .int u3)]) (st' := []) (w' := (SH, S, T)) rfl ?_
          refine xj_E.b_ne (fun q => ?_) (fun q => ?_)
          · have hd := hd.1 q
            have h := fun v e => h v (Eq.trans e (if_pos q).symm)
            refine xj_E.adv 5 (pc' := 56) (ls' := [(4, .int 0), (0, .ref 32), (1, .int u1), (2, .int u2), (3, .int u3)]) (st' := [.int u3, .ref 47]) (w' := (SH, S, T)) rfl ?_
            refine xj_E.iald rfl rfl hd.1 ?_
            have hd := hd.2
            refine xj_E.adv 2 (pc' := (if xj_cmp .eq (S 47 u3.toNatClampNeg) 2 = true then 96 else 61)) (ls' := [(4, .int 0), (0, .ref 32), (1, .int u1), (2, .int u2), (3, .int u3)]) (st' := []) (w' := (SH, S, T)) rfl ?_
            refine xj_E.b_eq (fun q => ?_) (fun q => ?_)
            · have hd := hd.1 q
              have h := fun v e => h v (Eq.trans e (if_pos q).symm)
              refine xj_E.adv 4 (pc' := 4) (ls' := [(3, .int (u3 + 1)), (2, .int 0), (4, .int 0), (0, .ref 32), (1, .int u1)]) (st' := []) (w' := (SH, S, T)) rfl ?_
              refine xj_E.loc [0, 1, 2, 3] xhth rfl (show xj_E (xX L xs) (d + 1) 91 4 [(0, .ref 32), (1, .int u1), (2, .int 0), (3, .int (u3 + 1))] [] (SH, S, T) P from ?_)
              exact (ih) _ _ _ hd h
            · have hd := hd.2 q
              have h := fun v e => h v (Eq.trans e (if_neg q).symm)
              refine xj_E.adv 3 (pc' := 66) (ls' := [(4, .int 0), (0, .ref 32), (1, .int u1), (2, .int u2), (3, .int u3)]) (st' := [.int u3, .ref 47]) (w' := (SH, S, T)) rfl ?_
              refine xj_E.iald rfl rfl hd.1 ?_
              have hd := hd.2
              refine xj_E.adv 2 (pc' := (if xj_cmp .eq (S 47 u3.toNatClampNeg) 3 = true then 96 else 71)) (ls' := [(4, .int 0), (0, .ref 32), (1, .int u1), (2, .int u2), (3, .int u3)]) (st' := []) (w' := (SH, S, T)) rfl ?_
              refine xj_E.b_eq (fun q => ?_) (fun q => ?_)
              · have hd := hd.1 q
                have h := fun v e => h v (Eq.trans e (if_pos q).symm)
                refine xj_E.adv 4 (pc' := 4) (ls' := [(3, .int (u3 + 1)), (2, .int 0), (4, .int 0), (0, .ref 32), (1, .int u1)]) (st' := []) (w' := (SH, S, T)) rfl ?_
                refine xj_E.loc [0, 1, 2, 3] xhth rfl (show xj_E (xX L xs) (d + 1) 91 4 [(0, .ref 32), (1, .int u1), (2, .int 0), (3, .int (u3 + 1))] [] (SH, S, T) P from ?_)
                exact (ih) _ _ _ hd h
              · have hd := hd.2 q
                have h := fun v e => h v (Eq.trans e (if_neg q).symm)
                refine xj_E.adv 3 (pc' := 76) (ls' := [(4, .int 0), (0, .ref 32), (1, .int u1), (2, .int u2), (3, .int u3)]) (st' := [.int u3, .ref 47]) (w' := (SH, S, T)) rfl ?_
                refine xj_E.iald rfl rfl hd.1 ?_
                have hd := hd.2
                refine xj_E.adv 2 (pc' := (if xj_cmp .eq (S 47 u3.toNatClampNeg) 6 = true then 96 else 82)) (ls' := [(4, .int 0), (0, .ref 32), (1, .int u1), (2, .int u2), (3, .int u3)]) (st' := []) (w' := (SH, S, T)) rfl ?_
                refine xj_E.b_eq (fun q => ?_) (fun q => ?_)
                · have hd := hd.1 q
                  have h := fun v e => h v (Eq.trans e (if_pos q).symm)
                  refine xj_E.adv 4 (pc' := 4) (ls' := [(3, .int (u3 + 1)), (2, .int 0), (4, .int 0), (0, .ref 32), (1, .int u1)]) (st' := []) (w' := (SH, S, T)) rfl ?_
                  refine xj_E.loc [0, 1, 2, 3] xhth rfl (show xj_E (xX L xs) (d + 1) 91 4 [(0, .ref 32), (1, .int u1), (2, .int 0), (3, .int (u3 + 1))] [] (SH, S, T) P from ?_)
                  exact (ih) _ _ _ hd h
                · have hd := hd.2 q
                  have h := fun v e => h v (Eq.trans e (if_neg q).symm)
                  refine xj_E.adv 4 (pc' := 4) (ls' := [(3, .int (u3 + 1)), (4, .int 0), (0, .ref 32), (1, .int u1), (2, .int u2)]) (st' := []) (w' := (SH, S, T)) rfl ?_
                  refine xj_E.loc [0, 1, 2, 3] xhth rfl (show xj_E (xX L xs) (d + 1) 91 4 [(0, .ref 32), (1, .int u1), (2, .int u2), (3, .int (u3 + 1))] [] (SH, S, T) P from ?_)
                  exact (ih) _ _ _ hd h
          · have hd := hd.2 q
            have h := fun v e => h v (Eq.trans e (if_neg q).symm)
            refine xj_E.adv 6 (pc' := 56) (ls' := [(4, .int 1), (0, .ref 32), (1, .int u1), (2, .int u2), (3, .int u3)]) (st' := [.int u3, .ref 47]) (w' := (SH, S, T)) rfl ?_
            refine xj_E.iald rfl rfl hd.1 ?_
            have hd := hd.2
            refine xj_E.adv 2 (pc' := (if xj_cmp .eq (S 47 u3.toNatClampNeg) 2 = true then 96 else 61)) (ls' := [(4, .int 1), (0, .ref 32), (1, .int u1), (2, .int u2), (3, .int u3)]) (st' := []) (w' := (SH, S, T)) rfl ?_
            refine xj_E.b_eq (fun q => ?_) (fun q => ?_)
            · have hd := hd.1 q
              have h := fun v e => h v (Eq.trans e (if_pos q).symm)
              refine xj_E.adv 4 (pc' := 4) (ls' := [(3, .int (u3 + 1)), (2, .int 0), (4, .int 1), (0, .ref 32), (1, .int u1)]) (st' := []) (w' := (SH, S, T)) rfl ?_
              refine xj_E.loc [0, 1, 2, 3] xhth rfl (show xj_E (xX L xs) (d + 1) 91 4 [(0, .ref 32), (1, .int u1), (2, .int 0), (3, .int (u3 + 1))] [] (SH, S, T) P from ?_)
              exact (ih) _ _ _ hd h
            · have hd := hd.2 q
              have h := fun v e => h v (Eq.trans e (if_neg q).symm)
              refine xj_E.adv 3 (pc' := 66) (ls' := [(4, .int 1), (0, .ref 32), (1, .int u1), (2, .int u2), (3, .int u3)]) (st' := [.int u3, .ref 47]) (w' := (SH, S, T)) rfl ?_
              refine xj_E.iald rfl rfl hd.1 ?_
              have hd := hd.2
              refine xj_E.adv 2 (pc' := (if xj_cmp .eq (S 47 u3.toNatClampNeg) 3 = true then 96 else 71)) (ls' := [(4, .int 1), (0, .ref 32), (1, .int u1), (2, .int u2), (3, .int u3)]) (st' := []) (w' := (SH, S, T)) rfl ?_
              refine xj_E.b_eq (fun q => ?_) (fun q => ?_)
              · have hd := hd.1 q
                have h := fun v e => h v (Eq.trans e (if_pos q).symm)
                refine xj_E.adv 4 (pc' := 4) (ls' := [(3, .int (u3 + 1)), (2, .int 0), (4, .int 1), (0, .ref 32), (1, .int u1)]) (st' := []) (w' := (SH, S, T)) rfl ?_
                refine xj_E.loc [0, 1, 2, 3] xhth rfl (show xj_E (xX L xs) (d + 1) 91 4 [(0, .ref 32), (1, .int u1), (2, .int 0), (3, .int (u3 + 1))] [] (SH, S, T) P from ?_)
                exact (ih) _ _ _ hd h
              · have hd := hd.2 q
                have h := fun v e => h v (Eq.trans e (if_neg q).symm)
                refine xj_E.adv 3 (pc' := 76) (ls' := [(4, .int 1), (0, .ref 32), (1, .int u1), (2, .int u2), (3, .int u3)]) (st' := [.int u3, .ref 47]) (w' := (SH, S, T)) rfl ?_
                refine xj_E.iald rfl rfl hd.1 ?_
                have hd := hd.2
                refine xj_E.adv 2 (pc' := (if xj_cmp .eq (S 47 u3.toNatClampNeg) 6 = true then 96 else 82)) (ls' := [(4, .int 1), (0, .ref 32), (1, .int u1), (2, .int u2), (3, .int u3)]) (st' := []) (w' := (SH, S, T)) rfl ?_
                refine xj_E.b_eq (fun q => ?_) (fun q => ?_)
                · have hd := hd.1 q
                  have h := fun v e => h v (Eq.trans e (if_pos q).symm)
                  refine xj_E.adv 4 (pc' := 4) (ls' := [(3, .int (u3 + 1)), (2, .int 0), (4, .int 1), (0, .ref 32), (1, .int u1)]) (st' := []) (w' := (SH, S, T)) rfl ?_
                  refine xj_E.loc [0, 1, 2, 3] xhth rfl (show xj_E (xX L xs) (d + 1) 91 4 [(0, .ref 32), (1, .int u1), (2, .int 0), (3, .int (u3 + 1))] [] (SH, S, T) P from ?_)
                  exact (ih) _ _ _ hd h
                · have hd := hd.2 q
                  have h := fun v e => h v (Eq.trans e (if_neg q).symm)
                  refine xj_E.adv 5 (pc' := 90) (ls' := [(4, .int 1), (0, .ref 32), (1, .int u1), (2, .int u2), (3, .int u3)]) (st' := [.int 2, .int u3, .ref 32]) (w' := (SH, S, T)) rfl ?_
                  refine xj_E.calli (d := d) (S := SH) rfl rfl rfl rfl rfl (ok_m_hasFlag hd.1 ?_)
                  intro v e
                  subst e
                  refine ⟨_, S, T, rfl, rfl, rfl, rfl, ?_⟩
                  have hd := hd.2
                  refine xj_E.adv 1 (pc' := (if xj_cmp .eq (r_m_hasFlag S u3 2) 0 = true then 98 else 96)) (ls' := [(4, .int 1), (0, .ref 32), (1, .int u1), (2, .int u2), (3, .int u3)]) (st' := []) (w' := (SH, S, T)) rfl ?_
                  refine xj_E.b_eq (fun q => ?_) (fun q => ?_)
                  · have hd := hd.1 q
                    have h := fun v e => h v (Eq.trans e (if_pos q).symm)
                    refine xj_E.adv 2 (pc' := 4) (ls' := [(3, .int (u3 + 1)), (4, .int 1), (0, .ref 32), (1, .int u1), (2, .int u2)]) (st' := []) (w' := (SH, S, T)) rfl ?_
                    refine xj_E.loc [0, 1, 2, 3] xhth rfl (show xj_E (xX L xs) (d + 1) 91 4 [(0, .ref 32), (1, .int u1), (2, .int u2), (3, .int (u3 + 1))] [] (SH, S, T) P from ?_)
                    exact (ih) _ _ _ hd h
                  · have hd := hd.2 q
                    have h := fun v e => h v (Eq.trans e (if_neg q).symm)
                    refine xj_E.adv 4 (pc' := 4) (ls' := [(3, .int (u3 + 1)), (2, .int 0), (4, .int 1), (0, .ref 32), (1, .int u1)]) (st' := []) (w' := (SH, S, T)) rfl ?_
                    refine xj_E.loc [0, 1, 2, 3] xhth rfl (show xj_E (xX L xs) (d + 1) 91 4 [(0, .ref 32), (1, .int u1), (2, .int 0), (3, .int (u3 + 1))] [] (SH, S, T) P from ?_)
                    exact (ih) _ _ _ hd h
      · have hd := hd.2 q
        have h := fun v e => h v (Eq.trans e (if_neg q).symm)
        refine xj_E.adv 3 (pc' := 4) (ls' := [(3, .int (u3 + 1)), (0, .ref 32), (1, .int u1), (2, .int u2)]) (st' := []) (w' := (SH, S, T)) rfl ?_
        refine xj_E.loc [0, 1, 2, 3] xhth rfl (show xj_E (xX L xs) (d + 1) 91 4 [(0, .ref 32), (1, .int u1), (2, .int u2), (3, .int (u3 + 1))] [] (SH, S, T) P from ?_)
        exact (ih) _ _ _ hd h
set_option maxRecDepth 100000 in
theorem ok_m_settled {L d : Nat} {xs : Nat → Int32} {S : Nat → Nat → Int32} {T : Nat → Nat → Int64} {P : (Option Value ⊕ Nat) → xj_W → Nat → Nat → Prop} {a : Int32} (hd : d_m_settled S a) (h : ∀ v, v = r_m_settled S a → P (.inl (some (.int v))) (SH, S, T) 0 0) : xj_E (xX L xs) (d + 1) 91 0 [(0, .ref 32), (1, .int a)] [] (SH, S, T) P := by
  unfold d_m_settled at hd
  unfold r_m_settled at h
  refine xj_E.adv 4 (pc' := 4) (ls' := [(3, .int 0), (2, .int 1), (0, .ref 32), (1, .int a)]) (st' := []) (w' := (SH, S, T)) rfl ?_
  refine xj_E.loc [0, 1, 2, 3] xhth rfl (show xj_E (xX L xs) (d + 1) 91 4 [(0, .ref 32), (1, .int a), (2, .int 1), (3, .int 0)] [] (SH, S, T) P from ?_)
  exact (okl_m_settled 200) _ _ _ hd h
set_option maxRecDepth 100000 in
theorem okl_m_done {L d : Nat} {xs : Nat → Int32} {S : Nat → Nat → Int32} {T : Nat → Nat → Int64} {P : (Option Value ⊕ Nat) → xj_W → Nat → Nat → Prop} (n : Nat) : (∀ u1 u2 u3, dl0_m_done n S u1 u2 u3 → (∀ v, v = rl0_m_done n S u1 u2 u3 → P (.inl (some (.int v))) (SH, S, T) 0 0) → xj_E (xX L xs) (d + 2) 92 8 [(0, .ref 32), (1, .int u1), (2, .int u2), (3, .int u3)] [] (SH, S, T) P) := by
  induction n with
  | zero =>
    exact fun _ _ _ hd _ => hd.elim
  | succ n ih =>
    intro u1 u2 u3 hd h
    refine xj_E.adv 4 (pc' := (if xj_cmp .ge u3 (S 32 17) = true then 63 else 16)) (ls' := [(0, .ref 32), (1, .int u1), (2, .int u2), (3, .int u3)]) (st' := []) (w' := (SH, S, T)) rfl ?_
    refine xj_E.b_ge (fun q => ?_) (fun q => ?_)
    · have hd := hd.1 q
      have h := fun v e => h v (Eq.trans e (if_pos q).symm)
      refine xj_E.adv 1 (pc' := 64) (ls' := [(0, .ref 32), (1, .int u1), (2, .int u2), (3, .int u3)]) (st' := [.int u2]) (w' := (SH, S, T)) rfl ?_
      exact xj_E.ret rfl rfl rfl (if_pos hd) (h _ rfl)
    · have hd := hd.2 q
      have h := fun v e => h v (Eq.trans e (if_neg q).symm)
      refine xj_E.adv 3 (pc' := 21) (ls' := [(0, .ref 32), (1, .int u1), (2, .int u2), (3, .int u3)]) (st' := [.int u3, .ref 46]) (w' := (SH, S, T)) rfl ?_
      refine xj_E.iald rfl rfl hd.1 ?_
      have hd := hd.2
      refine xj_E.adv 2 (pc' := (if xj_cmp .ne (S 46 u3.toNatClampNeg) u1 = true then 57 else 26)) (ls' := [(0, .ref 32), (1, .int u1), (2, .int u2), (3, .int u3)]) (st' := []) (w' := (SH, S, T)) rfl ?_
      refine xj_E.b_ne (fun q => ?_) (fun q => ?_)
      · have hd := hd.1 q
        have h := fun v e => h v (Eq.trans e (if_pos q).symm)
        refine xj_E.adv 2 (pc' := 8) (ls' := [(3, .int (u3 + 1)), (0, .ref 32), (1, .int u1), (2, .int u2)]) (st' := []) (w' := (SH, S, T)) rfl ?_
        refine xj_E.loc [0, 1, 2, 3] xhth rfl (show xj_E (xX L xs) (d + 2) 92 8 [(0, .ref 32), (1, .int u1), (2, .int u2), (3, .int (u3 + 1))] [] (SH, S, T) P from ?_)
        exact (ih) _ _ _ hd h
      · have hd := hd.2 q
        have h := fun v e => h v (Eq.trans e (if_neg q).symm)
        refine xj_E.adv 3 (pc' := 31) (ls' := [(0, .ref 32), (1, .int u1), (2, .int u2), (3, .int u3)]) (st' := [.int u3, .ref 47]) (w' := (SH, S, T)) rfl ?_
        refine xj_E.iald rfl rfl hd.1 ?_
        have hd := hd.2
        refine xj_E.adv 1 (pc' := (if xj_cmp .eq (S 47 u3.toNatClampNeg) 0 = true then 45 else 35)) (ls' := [(0, .ref 32), (1, .int u1), (2, .int u2), (3, .int u3)]) (st' := []) (w' := (SH, S, T)) rfl ?_
        refine xj_E.b_eq (fun q => ?_) (fun q => ?_)
        · have hd := hd.1 q
          have h := fun v e => h v (Eq.trans e (if_pos q).symm)
          refine xj_E.adv 3 (pc' := 49) (ls' := [(0, .ref 32), (1, .int u1), (2, .int u2), (3, .int u3)]) (st' := [.int 8, .int u1, .ref 32]) (w' := (SH, S, T)) rfl ?_
          refine xj_E.calli (d := d + 1) (S := SH) rfl rfl rfl rfl rfl (ok_m_hasFlag hd.1 ?_)
          intro v e
          subst e
          refine ⟨_, S, T, rfl, rfl, rfl, rfl, ?_⟩
          have hd := hd.2
          refine xj_E.adv 1 (pc' := (if xj_cmp .ne (r_m_hasFlag S u1 8) 0 = true then 57 else 55)) (ls' := [(0, .ref 32), (1, .int u1), (2, .int u2), (3, .int u3)]) (st' := []) (w' := (SH, S, T)) rfl ?_
          refine xj_E.b_ne (fun q => ?_) (fun q => ?_)
          · have hd := hd.1 q
            have h := fun v e => h v (Eq.trans e (if_pos q).symm)
            refine xj_E.adv 2 (pc' := 8) (ls' := [(3, .int (u3 + 1)), (0, .ref 32), (1, .int u1), (2, .int u2)]) (st' := []) (w' := (SH, S, T)) rfl ?_
            refine xj_E.loc [0, 1, 2, 3] xhth rfl (show xj_E (xX L xs) (d + 2) 92 8 [(0, .ref 32), (1, .int u1), (2, .int u2), (3, .int (u3 + 1))] [] (SH, S, T) P from ?_)
            exact (ih) _ _ _ hd h
          · have hd := hd.2 q
            have h := fun v e => h v (Eq.trans e (if_neg q).symm)
            refine xj_E.adv 4 (pc' := 8) (ls' := [(3, .int (u3 + 1)), (2, .int 0), (0, .ref 32), (1, .int u1)]) (st' := []) (w' := (SH, S, T)) rfl ?_
            refine xj_E.loc [0, 1, 2, 3] xhth rfl (show xj_E (xX L xs) (d + 2) 92 8 [(0, .ref 32), (1, .int u1), (2, .int 0), (3, .int (u3 + 1))] [] (SH, S, T) P from ?_)
            exact (ih) _ _ _ hd h
        · have hd := hd.2 q
          have h := fun v e => h v (Eq.trans e (if_neg q).symm)
          refine xj_E.adv 3 (pc' := 40) (ls' := [(0, .ref 32), (1, .int u1), (2, .int u2), (3, .int u3)]) (st' := [.int u3, .ref 47]) (w' := (SH, S, T)) rfl ?_
          refine xj_E.iald rfl rfl hd.1 ?_
          have hd := hd.2
          refine xj_E.adv 2 (pc' := (if xj_cmp .ne (S 47 u3.toNatClampNeg) 1 = true then 57 else 45)) (ls' := [(0, .ref 32), (1, .int u1), (2, .int u2), (3, .int u3)]) (st' := []) (w' := (SH, S, T)) rfl ?_
          refine xj_E.b_ne (fun q => ?_) (fun q => ?_)
          · have hd := hd.1 q
            have h := fun v e => h v (Eq.trans e (if_pos q).symm)
            refine xj_E.adv 2 (pc' := 8) (ls' := [(3, .int (u3 + 1)), (0, .ref 32), (1, .int u1), (2, .int u2)]) (st' := []) (w' := (SH, S, T)) rfl ?_
            refine xj_E.loc [0, 1, 2, 3] xhth rfl (show xj_E (xX L xs) (d + 2) 92 8 [(0, .ref 32), (1, .int u1), (2, .int u2), (3, .int (u3 + 1))] [] (SH, S, T) P from ?_)
            exact (ih) _ _ _ hd h
          · have hd := hd.2 q
            have h := fun v e => h v (Eq.trans e (if_neg q).symm)
            refine xj_E.adv 3 (pc' := 49) (ls' := [(0, .ref 32), (1, .int u1), (2, .int u2), (3, .int u3)]) (st' := [.int 8, .int u1, .ref 32]) (w' := (SH, S, T)) rfl ?_
            refine xj_E.calli (d := d + 1) (S := SH) rfl rfl rfl rfl rfl (ok_m_hasFlag hd.1 ?_)
            intro v e
            subst e
            refine ⟨_, S, T, rfl, rfl, rfl, rfl, ?_⟩
            have hd := hd.2
            refine xj_E.adv 1 (pc' := (if xj_cmp .ne (r_m_hasFlag S u1 8) 0 = true then 57 else 55)) (ls' := [(0, .ref 32), (1, .int u1), (2, .int u2), (3, .int u3)]) (st' := []) (w' := (SH, S, T)) rfl ?_
            refine xj_E.b_ne (fun q => ?_) (fun q => ?_)
            · have hd := hd.1 q
              have h := fun v e => h v (Eq.trans e (if_pos q).symm)
              refine xj_E.adv 2 (pc' := 8) (ls' := [(3, .int (u3 + 1)), (0, .ref 32), (1, .int u1), (2, .int u2)]) (st' := []) (w' := (SH, S, T)) rfl ?_
              refine xj_E.loc [0, 1, 2, 3] xhth rfl (show xj_E (xX L xs) (d + 2) 92 8 [(0, .ref 32), (1, .int u1), (2, .int u2), (3, .int (u3 + 1))] [] (SH, S, T) P from ?_)
              exact (ih) _ _ _ hd h
            · have hd := hd.2 q
              have h := fun v e => h v (Eq.trans e (if_neg q).symm)
              refine xj_E.adv 4 (pc' := 8) (ls' := [(3, .int (u3 + 1)), (2, .int 0), (0, .ref 32), (1, .int u1)]) (st' := []) (w' := (SH, S, T)) rfl ?_
              refine xj_E.loc [0, 1, 2, 3] xhth rfl (show xj_E (xX L xs) (d + 2) 92 8 [(0, .ref 32), (1, .int u1), (2, .int 0), (3, .int (u3 + 1))] [] (SH, S, T) P from ?_)
              exact (ih) _ _ _ hd h
set_option maxRecDepth 100000 in
theorem ok_m_done {L d : Nat} {xs : Nat → Int32} {S : Nat → Nat → Int32} {T : Nat → Nat → Int64} {P : (Option Value ⊕ Nat) → xj_W → Nat → Nat → Prop} {a : Int32} (hd : d_m_done S a) (h : ∀ v, v = r_m_done S a → P (.inl (some (.int v))) (SH, S, T) 0 0) : xj_E (xX L xs) (d + 2) 92 0 [(0, .ref 32), (1, .int a)] [] (SH, S, T) P := by
  unfold d_m_done at hd
  unfold r_m_done at h
  refine xj_E.adv 2 (pc' := 2) (ls' := [(0, .ref 32), (1, .int a)]) (st' := [.int a, .ref 32]) (w' := (SH, S, T)) rfl ?_
  refine xj_E.calli (d := d + 1) (S := SH) rfl rfl rfl rfl rfl (ok_m_settled hd.1 ?_)
  intro v e
  subst e
  refine ⟨_, S, T, rfl, rfl, rfl, rfl, ?_⟩
  have hd := hd.2
  refine xj_E.adv 3 (pc' := 8) (ls' := [(3, .int 0), (2, .int (r_m_settled S a)), (0, .ref 32), (1, .int a)]) (st' := []) (w' := (SH, S, T)) rfl ?_
  refine xj_E.loc [0, 1, 2, 3] xhth rfl (show xj_E (xX L xs) (d + 2) 92 8 [(0, .ref 32), (1, .int a), (2, .int (r_m_settled S a)), (3, .int 0)] [] (SH, S, T) P from ?_)
  exact (okl_m_done 200) _ _ _ hd h
set_option maxRecDepth 100000 in
theorem okl_m_toExit {L d : Nat} {xs : Nat → Int32} {S : Nat → Nat → Int32} {T : Nat → Nat → Int64} {P : (Option Value ⊕ Nat) → xj_W → Nat → Nat → Prop} (n : Nat) : (∀ u1, dl0_m_toExit n S u1 → (∀ v, v = rl0_m_toExit n S u1 → P (.inl (some (.int v))) (SH, S, T) 0 0) → xj_E (xX L xs) (d + 2) 93 2 [(0, .ref 32), (1, .int u1)] [] (SH, S, T) P) := by
  induction n with
  | zero =>
    exact fun _ hd _ => hd.elim
  | succ n ih =>
    intro u1 hd h
    refine xj_E.adv 4 (pc' := (if xj_cmp .ge u1 (S 32 17) = true then 43 else 10)) (ls' := [(0, .ref 32), (1, .int u1)]) (st' := []) (w' := (SH, S, T)) rfl ?_
    refine xj_E.b_ge (fun q => ?_) (fun q => ?_)
    · have hd := hd.1 q
      have h := fun v e => h v (Eq.trans e (if_pos q).symm)
      refine xj_E.adv 1 (pc' := 44) (ls' := [(0, .ref 32), (1, .int u1)]) (st' := [.int (-1)]) (w' := (SH, S, T)) rfl ?_
      exact xj_E.ret rfl rfl rfl rfl (h _ rfl)
    · have hd := hd.2 q
      have h := fun v e => h v (Eq.trans e (if_neg q).symm)
      refine xj_E.adv 2 (pc' := 12) (ls' := [(0, .ref 32), (1, .int u1)]) (st' := [.int u1, .ref 32]) (w' := (SH, S, T)) rfl ?_
      refine xj_E.calli (d := d + 1) (S := SH) rfl rfl rfl rfl rfl (ok_m_isFinal hd.1 ?_)
      intro v e
      subst e
      refine ⟨_, S, T, rfl, rfl, rfl, rfl, ?_⟩
      have hd := hd.2
      refine xj_E.adv 1 (pc' := (if xj_cmp .ne (r_m_isFinal S u1) 0 = true then 37 else 18)) (ls' := [(0, .ref 32), (1, .int u1)]) (st' := []) (w' := (SH, S, T)) rfl ?_
      refine xj_E.b_ne (fun q => ?_) (fun q => ?_)
      · have hd := hd.1 q
        have h := fun v e => h v (Eq.trans e (if_pos q).symm)
        refine xj_E.adv 2 (pc' := 2) (ls' := [(1, .int (u1 + 1)), (0, .ref 32)]) (st' := []) (w' := (SH, S, T)) rfl ?_
        refine xj_E.loc [0, 1] xhth rfl (show xj_E (xX L xs) (d + 2) 93 2 [(0, .ref 32), (1, .int (u1 + 1))] [] (SH, S, T) P from ?_)
        exact (ih) _ hd h
      · have hd := hd.2 q
        have h := fun v e => h v (Eq.trans e (if_neg q).symm)
        refine xj_E.adv 2 (pc' := 20) (ls' := [(0, .ref 32), (1, .int u1)]) (st' := [.int u1, .ref 32]) (w' := (SH, S, T)) rfl ?_
        refine xj_E.calli (d := d + 1) (S := SH) rfl rfl rfl rfl rfl (ok_m_parentActive hd.1 ?_)
        intro v e
        subst e
        refine ⟨_, S, T, rfl, rfl, rfl, rfl, ?_⟩
        have hd := hd.2
        refine xj_E.adv 1 (pc' := (if xj_cmp .eq (r_m_parentActive S u1) 0 = true then 37 else 26)) (ls' := [(0, .ref 32), (1, .int u1)]) (st' := []) (w' := (SH, S, T)) rfl ?_
        refine xj_E.b_eq (fun q => ?_) (fun q => ?_)
        · have hd := hd.1 q
          have h := fun v e => h v (Eq.trans e (if_pos q).symm)
          refine xj_E.adv 2 (pc' := 2) (ls' := [(1, .int (u1 + 1)), (0, .ref 32)]) (st' := []) (w' := (SH, S, T)) rfl ?_
          refine xj_E.loc [0, 1] xhth rfl (show xj_E (xX L xs) (d + 2) 93 2 [(0, .ref 32), (1, .int (u1 + 1))] [] (SH, S, T) P from ?_)
          exact (ih) _ hd h
        · have hd := hd.2 q
          have h := fun v e => h v (Eq.trans e (if_neg q).symm)
          refine xj_E.adv 3 (pc' := 29) (ls' := [(0, .ref 32), (1, .int u1)]) (st' := [.int 1, .int u1, .ref 32]) (w' := (SH, S, T)) rfl ?_
          refine xj_E.calli (d := d + 1) (S := SH) rfl rfl rfl rfl rfl (ok_m_someSatisfied hd.1 ?_)
          intro v e
          subst e
          refine ⟨_, S, T, rfl, rfl, rfl, rfl, ?_⟩
          have hd := hd.2
          refine xj_E.adv 1 (pc' := (if xj_cmp .eq (r_m_someSatisfied S u1 1) 0 = true then 37 else 35)) (ls' := [(0, .ref 32), (1, .int u1)]) (st' := []) (w' := (SH, S, T)) rfl ?_
          refine xj_E.b_eq (fun q => ?_) (fun q => ?_)
          · have hd := hd.1 q
            have h := fun v e => h v (Eq.trans e (if_pos q).symm)
            refine xj_E.adv 2 (pc' := 2) (ls' := [(1, .int (u1 + 1)), (0, .ref 32)]) (st' := []) (w' := (SH, S, T)) rfl ?_
            refine xj_E.loc [0, 1] xhth rfl (show xj_E (xX L xs) (d + 2) 93 2 [(0, .ref 32), (1, .int (u1 + 1))] [] (SH, S, T) P from ?_)
            exact (ih) _ hd h
          · have hd := hd.2 q
            have h := fun v e => h v (Eq.trans e (if_neg q).symm)
            refine xj_E.adv 1 (pc' := 36) (ls' := [(0, .ref 32), (1, .int u1)]) (st' := [.int u1]) (w' := (SH, S, T)) rfl ?_
            exact xj_E.ret rfl rfl rfl rfl (h _ rfl)
set_option maxRecDepth 100000 in
theorem ok_m_toExit {L d : Nat} {xs : Nat → Int32} {S : Nat → Nat → Int32} {T : Nat → Nat → Int64} {P : (Option Value ⊕ Nat) → xj_W → Nat → Nat → Prop} (hd : d_m_toExit S ) (h : ∀ v, v = r_m_toExit S  → P (.inl (some (.int v))) (SH, S, T) 0 0) : xj_E (xX L xs) (d + 2) 93 0 [(0, .ref 32)] [] (SH, S, T) P := by
  unfold d_m_toExit at hd
  unfold r_m_toExit at h
  refine xj_E.adv 2 (pc' := 2) (ls' := [(1, .int 0), (0, .ref 32)]) (st' := []) (w' := (SH, S, T)) rfl ?_
  refine xj_E.loc [0, 1] xhth rfl (show xj_E (xX L xs) (d + 2) 93 2 [(0, .ref 32), (1, .int 0)] [] (SH, S, T) P from ?_)
  exact (okl_m_toExit 200) _ hd h
set_option maxRecDepth 100000 in
theorem okl_m_toLetIn {L d : Nat} {xs : Nat → Int32} {S : Nat → Nat → Int32} {T : Nat → Nat → Int64} {P : (Option Value ⊕ Nat) → xj_W → Nat → Nat → Prop} (n : Nat) : (∀ u1, dl0_m_toLetIn n S u1 → (∀ v, v = rl0_m_toLetIn n S u1 → P (.inl (some (.int v))) (SH, S, T) 0 0) → xj_E (xX L xs) (d + 2) 94 2 [(0, .ref 32), (1, .int u1)] [] (SH, S, T) P) := by
  induction n with
  | zero =>
    exact fun _ hd _ => hd.elim
  | succ n ih =>
    intro u1 hd h
    refine xj_E.adv 4 (pc' := (if xj_cmp .ge u1 (S 32 17) = true then 64 else 10)) (ls' := [(0, .ref 32), (1, .int u1)]) (st' := []) (w' := (SH, S, T)) rfl ?_
    refine xj_E.b_ge (fun q => ?_) (fun q => ?_)
    · have hd := hd.1 q
      have h := fun v e => h v (Eq.trans e (if_pos q).symm)
      refine xj_E.adv 1 (pc' := 65) (ls' := [(0, .ref 32), (1, .int u1)]) (st' := [.int (-1)]) (w' := (SH, S, T)) rfl ?_
      exact xj_E.ret rfl rfl rfl rfl (h _ rfl)
    · have hd := hd.2 q
      have h := fun v e => h v (Eq.trans e (if_neg q).symm)
      refine xj_E.adv 3 (pc' := 15) (ls' := [(0, .ref 32), (1, .int u1)]) (st' := [.int u1, .ref 47]) (w' := (SH, S, T)) rfl ?_
      refine xj_E.iald rfl rfl hd.1 ?_
      have hd := hd.2
      refine xj_E.adv 1 (pc' := (if xj_cmp .ne (S 47 u1.toNatClampNeg) 0 = true then 58 else 19)) (ls' := [(0, .ref 32), (1, .int u1)]) (st' := []) (w' := (SH, S, T)) rfl ?_
      refine xj_E.b_ne (fun q => ?_) (fun q => ?_)
      · have hd := hd.1 q
        have h := fun v e => h v (Eq.trans e (if_pos q).symm)
        refine xj_E.adv 2 (pc' := 2) (ls' := [(1, .int (u1 + 1)), (0, .ref 32)]) (st' := []) (w' := (SH, S, T)) rfl ?_
        refine xj_E.loc [0, 1] xhth rfl (show xj_E (xX L xs) (d + 2) 94 2 [(0, .ref 32), (1, .int (u1 + 1))] [] (SH, S, T) P from ?_)
        exact (ih) _ hd h
      · have hd := hd.2 q
        have h := fun v e => h v (Eq.trans e (if_neg q).symm)
        refine xj_E.adv 2 (pc' := 21) (ls' := [(0, .ref 32), (1, .int u1)]) (st' := [.int u1, .ref 32]) (w' := (SH, S, T)) rfl ?_
        refine xj_E.calli (d := d + 1) (S := SH) rfl rfl rfl rfl rfl (ok_m_kindOf hd.1 ?_)
        intro v e
        subst e
        refine ⟨_, S, T, rfl, rfl, rfl, rfl, ?_⟩
        have hd := hd.2
        refine xj_E.adv 2 (pc' := (if xj_cmp .eq (r_m_kindOf S u1) 3 = true then 58 else 28)) (ls' := [(0, .ref 32), (1, .int u1)]) (st' := []) (w' := (SH, S, T)) rfl ?_
        refine xj_E.b_eq (fun q => ?_) (fun q => ?_)
        · have hd := hd.1 q
          have h := fun v e => h v (Eq.trans e (if_pos q).symm)
          refine xj_E.adv 2 (pc' := 2) (ls' := [(1, .int (u1 + 1)), (0, .ref 32)]) (st' := []) (w' := (SH, S, T)) rfl ?_
          refine xj_E.loc [0, 1] xhth rfl (show xj_E (xX L xs) (d + 2) 94 2 [(0, .ref 32), (1, .int (u1 + 1))] [] (SH, S, T) P from ?_)
          exact (ih) _ hd h
        · have hd := hd.2 q
          have h := fun v e => h v (Eq.trans e (if_neg q).symm)
          refine xj_E.adv 2 (pc' := 30) (ls' := [(0, .ref 32), (1, .int u1)]) (st' := [.int u1, .ref 32]) (w' := (SH, S, T)) rfl ?_
          refine xj_E.calli (d := d + 1) (S := SH) rfl rfl rfl rfl rfl (ok_m_parentActive hd.1 ?_)
          intro v e
          subst e
          refine ⟨_, S, T, rfl, rfl, rfl, rfl, ?_⟩
          have hd := hd.2
          refine xj_E.adv 1 (pc' := (if xj_cmp .ne (r_m_parentActive S u1) 0 = true then 39 else 36)) (ls' := [(0, .ref 32), (1, .int u1)]) (st' := []) (w' := (SH, S, T)) rfl ?_
          refine xj_E.b_ne (fun q => ?_) (fun q => ?_)
          · have hd := hd.1 q
            have h := fun v e => h v (Eq.trans e (if_pos q).symm)
            refine xj_E.adv 2 (pc' := 41) (ls' := [(0, .ref 32), (1, .int u1)]) (st' := [.int u1, .ref 32]) (w' := (SH, S, T)) rfl ?_
            refine xj_E.calli (d := d + 1) (S := SH) rfl rfl rfl rfl rfl (ok_m_hasEntry hd.1 ?_)
            intro v e
            subst e
            refine ⟨_, S, T, rfl, rfl, rfl, rfl, ?_⟩
            have hd := hd.2
            refine xj_E.adv 1 (pc' := (if xj_cmp .eq (r_m_hasEntry S u1) 0 = true then 56 else 47)) (ls' := [(0, .ref 32), (1, .int u1)]) (st' := []) (w' := (SH, S, T)) rfl ?_
            refine xj_E.b_eq (fun q => ?_) (fun q => ?_)
            · have hd := hd.1 q
              have h := fun v e => h v (Eq.trans e (if_pos q).symm)
              refine xj_E.adv 1 (pc' := 57) (ls' := [(0, .ref 32), (1, .int u1)]) (st' := [.int u1]) (w' := (SH, S, T)) rfl ?_
              exact xj_E.ret rfl rfl rfl rfl (h _ rfl)
            · have hd := hd.2 q
              have h := fun v e => h v (Eq.trans e (if_neg q).symm)
              refine xj_E.adv 3 (pc' := 50) (ls' := [(0, .ref 32), (1, .int u1)]) (st' := [.int 0, .int u1, .ref 32]) (w' := (SH, S, T)) rfl ?_
              refine xj_E.calli (d := d + 1) (S := SH) rfl rfl rfl rfl rfl (ok_m_someSatisfied hd.1 ?_)
              intro v e
              subst e
              refine ⟨_, S, T, rfl, rfl, rfl, rfl, ?_⟩
              have hd := hd.2
              refine xj_E.adv 1 (pc' := (if xj_cmp .eq (r_m_someSatisfied S u1 0) 0 = true then 58 else 56)) (ls' := [(0, .ref 32), (1, .int u1)]) (st' := []) (w' := (SH, S, T)) rfl ?_
              refine xj_E.b_eq (fun q => ?_) (fun q => ?_)
              · have hd := hd.1 q
                have h := fun v e => h v (Eq.trans e (if_pos q).symm)
                refine xj_E.adv 2 (pc' := 2) (ls' := [(1, .int (u1 + 1)), (0, .ref 32)]) (st' := []) (w' := (SH, S, T)) rfl ?_
                refine xj_E.loc [0, 1] xhth rfl (show xj_E (xX L xs) (d + 2) 94 2 [(0, .ref 32), (1, .int (u1 + 1))] [] (SH, S, T) P from ?_)
                exact (ih) _ hd h
              · have hd := hd.2 q
                have h := fun v e => h v (Eq.trans e (if_neg q).symm)
                refine xj_E.adv 1 (pc' := 57) (ls' := [(0, .ref 32), (1, .int u1)]) (st' := [.int u1]) (w' := (SH, S, T)) rfl ?_
                exact xj_E.ret rfl rfl rfl rfl (h _ rfl)
          · have hd := hd.2 q
            have h := fun v e => h v (Eq.trans e (if_neg q).symm)
            refine xj_E.adv 3 (pc' := 2) (ls' := [(1, .int (u1 + 1)), (0, .ref 32)]) (st' := []) (w' := (SH, S, T)) rfl ?_
            refine xj_E.loc [0, 1] xhth rfl (show xj_E (xX L xs) (d + 2) 94 2 [(0, .ref 32), (1, .int (u1 + 1))] [] (SH, S, T) P from ?_)
            exact (ih) _ hd h
set_option maxRecDepth 100000 in
theorem ok_m_toLetIn {L d : Nat} {xs : Nat → Int32} {S : Nat → Nat → Int32} {T : Nat → Nat → Int64} {P : (Option Value ⊕ Nat) → xj_W → Nat → Nat → Prop} (hd : d_m_toLetIn S ) (h : ∀ v, v = r_m_toLetIn S  → P (.inl (some (.int v))) (SH, S, T) 0 0) : xj_E (xX L xs) (d + 2) 94 0 [(0, .ref 32)] [] (SH, S, T) P := by
  unfold d_m_toLetIn at hd
  unfold r_m_toLetIn at h
  refine xj_E.adv 2 (pc' := 2) (ls' := [(1, .int 0), (0, .ref 32)]) (st' := []) (w' := (SH, S, T)) rfl ?_
  refine xj_E.loc [0, 1] xhth rfl (show xj_E (xX L xs) (d + 2) 94 2 [(0, .ref 32), (1, .int 0)] [] (SH, S, T) P from ?_)
  exact (okl_m_toLetIn 200) _ hd h
set_option maxRecDepth 100000 in
theorem okl_m_toComplete {L d : Nat} {xs : Nat → Int32} {S : Nat → Nat → Int32} {T : Nat → Nat → Int64} {P : (Option Value ⊕ Nat) → xj_W → Nat → Nat → Prop} (n : Nat) : (∀ u1, dl0_m_toComplete n S u1 → (∀ v, v = rl0_m_toComplete n S u1 → P (.inl (some (.int v))) (SH, S, T) 0 0) → xj_E (xX L xs) (d + 3) 95 2 [(0, .ref 32), (1, .int u1)] [] (SH, S, T) P) := by
  induction n with
  | zero =>
    exact fun _ hd _ => hd.elim
  | succ n ih =>
    intro u1 hd h
    refine xj_E.adv 4 (pc' := (if xj_cmp .ge u1 (S 32 17) = true then 61 else 10)) (ls' := [(0, .ref 32), (1, .int u1)]) (st' := []) (w' := (SH, S, T)) rfl ?_
    refine xj_E.b_ge (fun q => ?_) (fun q => ?_)
    · have hd := hd.1 q
      have h := fun v e => h v (Eq.trans e (if_pos q).symm)
      refine xj_E.adv 1 (pc' := 62) (ls' := [(0, .ref 32), (1, .int u1)]) (st' := [.int (-1)]) (w' := (SH, S, T)) rfl ?_
      exact xj_E.ret rfl rfl rfl rfl (h _ rfl)
    · have hd := hd.2 q
      have h := fun v e => h v (Eq.trans e (if_neg q).symm)
      refine xj_E.adv 3 (pc' := 15) (ls' := [(0, .ref 32), (1, .int u1)]) (st' := [.int u1, .ref 47]) (w' := (SH, S, T)) rfl ?_
      refine xj_E.iald rfl rfl hd.1 ?_
      have hd := hd.2
      refine xj_E.adv 2 (pc' := (if xj_cmp .ne (S 47 u1.toNatClampNeg) 2 = true then 55 else 20)) (ls' := [(0, .ref 32), (1, .int u1)]) (st' := []) (w' := (SH, S, T)) rfl ?_
      refine xj_E.b_ne (fun q => ?_) (fun q => ?_)
      · have hd := hd.1 q
        have h := fun v e => h v (Eq.trans e (if_pos q).symm)
        refine xj_E.adv 2 (pc' := 2) (ls' := [(1, .int (u1 + 1)), (0, .ref 32)]) (st' := []) (w' := (SH, S, T)) rfl ?_
        refine xj_E.loc [0, 1] xhth rfl (show xj_E (xX L xs) (d + 3) 95 2 [(0, .ref 32), (1, .int (u1 + 1))] [] (SH, S, T) P from ?_)
        exact (ih) _ hd h
      · have hd := hd.2 q
        have h := fun v e => h v (Eq.trans e (if_neg q).symm)
        refine xj_E.adv 2 (pc' := 22) (ls' := [(0, .ref 32), (1, .int u1)]) (st' := [.int u1, .ref 32]) (w' := (SH, S, T)) rfl ?_
        refine xj_E.calli (d := d + 2) (S := SH) rfl rfl rfl rfl rfl (ok_m_kindOf hd.1 ?_)
        intro v e
        subst e
        refine ⟨_, S, T, rfl, rfl, rfl, rfl, ?_⟩
        have hd := hd.2
        refine xj_E.adv 1 (pc' := (if xj_cmp .ne (r_m_kindOf S u1) 0 = true then 55 else 28)) (ls' := [(0, .ref 32), (1, .int u1)]) (st' := []) (w' := (SH, S, T)) rfl ?_
        refine xj_E.b_ne (fun q => ?_) (fun q => ?_)
        · have hd := hd.1 q
          have h := fun v e => h v (Eq.trans e (if_pos q).symm)
          refine xj_E.adv 2 (pc' := 2) (ls' := [(1, .int (u1 + 1)), (0, .ref 32)]) (st' := []) (w' := (SH, S, T)) rfl ?_
          refine xj_E.loc [0, 1] xhth rfl (show xj_E (xX L xs) (d + 3) 95 2 [(0, .ref 32), (1, .int (u1 + 1))] [] (SH, S, T) P from ?_)
          exact (ih) _ hd h
        · have hd := hd.2 q
          have h := fun v e => h v (Eq.trans e (if_neg q).symm)
          refine xj_E.adv 3 (pc' := 33) (ls' := [(0, .ref 32), (1, .int u1)]) (st' := [.int u1, .ref 46]) (w' := (SH, S, T)) rfl ?_
          refine xj_E.iald rfl rfl hd.1 ?_
          have hd := hd.2
          refine xj_E.adv 1 (pc' := (if xj_cmp .lt (S 46 u1.toNatClampNeg) 0 = true then 45 else 37)) (ls' := [(0, .ref 32), (1, .int u1)]) (st' := []) (w' := (SH, S, T)) rfl ?_
          refine xj_E.b_lt (fun q => ?_) (fun q => ?_)
          · have hd := hd.1 q
            have h := fun v e => h v (Eq.trans e (if_pos q).symm)
            refine xj_E.adv 2 (pc' := 47) (ls' := [(0, .ref 32), (1, .int u1)]) (st' := [.int u1, .ref 32]) (w' := (SH, S, T)) rfl ?_
            refine xj_E.calli (d := d + 2) (S := SH) rfl rfl rfl rfl rfl (ok_m_done hd.1 ?_)
            intro v e
            subst e
            refine ⟨_, S, T, rfl, rfl, rfl, rfl, ?_⟩
            have hd := hd.2
            refine xj_E.adv 1 (pc' := (if xj_cmp .eq (r_m_done S u1) 0 = true then 55 else 53)) (ls' := [(0, .ref 32), (1, .int u1)]) (st' := []) (w' := (SH, S, T)) rfl ?_
            refine xj_E.b_eq (fun q => ?_) (fun q => ?_)
            · have hd := hd.1 q
              have h := fun v e => h v (Eq.trans e (if_pos q).symm)
              refine xj_E.adv 2 (pc' := 2) (ls' := [(1, .int (u1 + 1)), (0, .ref 32)]) (st' := []) (w' := (SH, S, T)) rfl ?_
              refine xj_E.loc [0, 1] xhth rfl (show xj_E (xX L xs) (d + 3) 95 2 [(0, .ref 32), (1, .int (u1 + 1))] [] (SH, S, T) P from ?_)
              exact (ih) _ hd h
            · have hd := hd.2 q
              have h := fun v e => h v (Eq.trans e (if_neg q).symm)
              refine xj_E.adv 1 (pc' := 54) (ls' := [(0, .ref 32), (1, .int u1)]) (st' := [.int u1]) (w' := (SH, S, T)) rfl ?_
              exact xj_E.ret rfl rfl rfl rfl (h _ rfl)
          · have hd := hd.2 q
            have h := fun v e => h v (Eq.trans e (if_neg q).symm)
            refine xj_E.adv 2 (pc' := 39) (ls' := [(0, .ref 32), (1, .int u1)]) (st' := [.int u1, .ref 32]) (w' := (SH, S, T)) rfl ?_
            refine xj_E.calli (d := d + 2) (S := SH) rfl rfl rfl rfl rfl (ok_m_parentActive hd.1 ?_)
            intro v e
            subst e
            refine ⟨_, S, T, rfl, rfl, rfl, rfl, ?_⟩
            have hd := hd.2
            refine xj_E.adv 1 (pc' := (if xj_cmp .eq (r_m_parentActive S u1) 0 = true then 55 else 45)) (ls' := [(0, .ref 32), (1, .int u1)]) (st' := []) (w' := (SH, S, T)) rfl ?_
            refine xj_E.b_eq (fun q => ?_) (fun q => ?_)
            · have hd := hd.1 q
              have h := fun v e => h v (Eq.trans e (if_pos q).symm)
              refine xj_E.adv 2 (pc' := 2) (ls' := [(1, .int (u1 + 1)), (0, .ref 32)]) (st' := []) (w' := (SH, S, T)) rfl ?_
              refine xj_E.loc [0, 1] xhth rfl (show xj_E (xX L xs) (d + 3) 95 2 [(0, .ref 32), (1, .int (u1 + 1))] [] (SH, S, T) P from ?_)
              exact (ih) _ hd h
            · have hd := hd.2 q
              have h := fun v e => h v (Eq.trans e (if_neg q).symm)
              refine xj_E.adv 2 (pc' := 47) (ls' := [(0, .ref 32), (1, .int u1)]) (st' := [.int u1, .ref 32]) (w' := (SH, S, T)) rfl ?_
              refine xj_E.calli (d := d + 2) (S := SH) rfl rfl rfl rfl rfl (ok_m_done hd.1 ?_)
              intro v e
              subst e
              refine ⟨_, S, T, rfl, rfl, rfl, rfl, ?_⟩
              have hd := hd.2
              refine xj_E.adv 1 (pc' := (if xj_cmp .eq (r_m_done S u1) 0 = true then 55 else 53)) (ls' := [(0, .ref 32), (1, .int u1)]) (st' := []) (w' := (SH, S, T)) rfl ?_
              refine xj_E.b_eq (fun q => ?_) (fun q => ?_)
              · have hd := hd.1 q
                have h := fun v e => h v (Eq.trans e (if_pos q).symm)
                refine xj_E.adv 2 (pc' := 2) (ls' := [(1, .int (u1 + 1)), (0, .ref 32)]) (st' := []) (w' := (SH, S, T)) rfl ?_
                refine xj_E.loc [0, 1] xhth rfl (show xj_E (xX L xs) (d + 3) 95 2 [(0, .ref 32), (1, .int (u1 + 1))] [] (SH, S, T) P from ?_)
                exact (ih) _ hd h
              · have hd := hd.2 q
                have h := fun v e => h v (Eq.trans e (if_neg q).symm)
                refine xj_E.adv 1 (pc' := 54) (ls' := [(0, .ref 32), (1, .int u1)]) (st' := [.int u1]) (w' := (SH, S, T)) rfl ?_
                exact xj_E.ret rfl rfl rfl rfl (h _ rfl)
set_option maxRecDepth 100000 in
theorem ok_m_toComplete {L d : Nat} {xs : Nat → Int32} {S : Nat → Nat → Int32} {T : Nat → Nat → Int64} {P : (Option Value ⊕ Nat) → xj_W → Nat → Nat → Prop} (hd : d_m_toComplete S ) (h : ∀ v, v = r_m_toComplete S  → P (.inl (some (.int v))) (SH, S, T) 0 0) : xj_E (xX L xs) (d + 3) 95 0 [(0, .ref 32)] [] (SH, S, T) P := by
  unfold d_m_toComplete at hd
  unfold r_m_toComplete at h
  refine xj_E.adv 2 (pc' := 2) (ls' := [(1, .int 0), (0, .ref 32)]) (st' := []) (w' := (SH, S, T)) rfl ?_
  refine xj_E.loc [0, 1] xhth rfl (show xj_E (xX L xs) (d + 3) 95 2 [(0, .ref 32), (1, .int 0)] [] (SH, S, T) P from ?_)
  exact (okl_m_toComplete 200) _ hd h
set_option maxRecDepth 100000 in
theorem ok_m_allowed {L d : Nat} {xs : Nat → Int32} {S : Nat → Nat → Int32} {T : Nat → Nat → Int64} {P : (Option Value ⊕ Nat) → xj_W → Nat → Nat → Prop} {a b : Int32} (hd : d_m_allowed S a b) (h : ∀ v, v = r_m_allowed S a b → P (.inl (some (.int v))) (SH, S, T) 0 0) : xj_E (xX L xs) (d + 2) 102 0 [(0, .ref 32), (1, .int a), (2, .int b)] [] (SH, S, T) P := by
  unfold d_m_allowed at hd
  unfold r_m_allowed at h
  refine xj_E.adv 2 (pc' := 2) (ls' := [(0, .ref 32), (1, .int a), (2, .int b)]) (st' := [.int a, .ref 32]) (w' := (SH, S, T)) rfl ?_
  refine xj_E.calli (d := d + 1) (S := SH) rfl rfl rfl rfl rfl (ok_m_kindOf hd.1 ?_)
  intro v e
  subst e
  refine ⟨_, S, T, rfl, rfl, rfl, rfl, ?_⟩
  have hd := hd.2
  refine xj_E.adv 4 (pc' := 11) (ls' := [(3, .int (r_m_kindOf S a)), (0, .ref 32), (1, .int a), (2, .int b)]) (st' := [.int a, .ref 47]) (w' := (SH, S, T)) rfl ?_
  refine xj_E.iald rfl rfl hd.1 ?_
  have hd := hd.2
  refine xj_E.adv 4 (pc' := 19) (ls' := [(4, .int (S 47 a.toNatClampNeg)), (3, .int (r_m_kindOf S a)), (0, .ref 32), (1, .int a), (2, .int b)]) (st' := [.int a, .ref 46]) (w' := (SH, S, T)) rfl ?_
  refine xj_E.iald rfl rfl hd.1 ?_
  have hd := hd.2
  refine xj_E.adv 1 (pc' := (if xj_cmp .lt (S 46 a.toNatClampNeg) 0 = true then 33 else 23)) (ls' := [(4, .int (S 47 a.toNatClampNeg)), (3, .int (r_m_kindOf S a)), (0, .ref 32), (1, .int a), (2, .int b)]) (st' := []) (w' := (SH, S, T)) rfl ?_
  refine xj_E.b_lt (fun q => ?_) (fun q => ?_)
  · have hd := hd.1 q
    have h := fun v e => h v (Eq.trans e (if_pos q).symm)
    refine xj_E.adv 1 (pc' := 34) (ls' := [(4, .int (S 47 a.toNatClampNeg)), (3, .int (r_m_kindOf S a)), (0, .ref 32), (1, .int a), (2, .int b)]) (st' := [.int b]) (w' := (SH, S, T)) rfl ?_
    by_cases q2 : b = 2
    · have hd := hd.1 q2
      have h := fun v e => h v (Eq.trans e (if_pos q2).symm)
      refine xj_E.swk q2 ?_
      refine xj_E.adv 1 (pc' := 76) (ls' := [(4, .int (S 47 a.toNatClampNeg)), (3, .int (r_m_kindOf S a)), (0, .ref 32), (1, .int a), (2, .int b)]) (st' := []) (w' := (SH, S, T)) rfl ?_
      refine xj_E.adv 3 (pc' := (if xj_cmp .ne (S 47 a.toNatClampNeg) 1 = true then 86 else 82)) (ls' := [(4, .int (S 47 a.toNatClampNeg)), (3, .int (r_m_kindOf S a)), (0, .ref 32), (1, .int a), (2, .int b)]) (st' := []) (w' := (SH, S, T)) rfl ?_
      refine xj_E.b_ne (fun q => ?_) (fun q => ?_)
      · have hd := hd.1 q
        have h := fun v e => h v (Eq.trans e (if_pos q).symm)
        refine xj_E.adv 1 (pc' := 87) (ls' := [(4, .int (S 47 a.toNatClampNeg)), (3, .int (r_m_kindOf S a)), (0, .ref 32), (1, .int a), (2, .int b)]) (st' := [.int 0]) (w' := (SH, S, T)) rfl ?_
        exact xj_E.ret rfl rfl rfl rfl (h _ rfl)
      · have hd := hd.2 q
        have h := fun v e => h v (Eq.trans e (if_neg q).symm)
        refine xj_E.adv 2 (pc' := 87) (ls' := [(4, .int (S 47 a.toNatClampNeg)), (3, .int (r_m_kindOf S a)), (0, .ref 32), (1, .int a), (2, .int b)]) (st' := [.int 1]) (w' := (SH, S, T)) rfl ?_
        exact xj_E.ret rfl rfl rfl rfl (h _ rfl)
    · have hd := hd.2 q2
      have h := fun v e => h v (Eq.trans e (if_neg q2).symm)
      by_cases q3 : b = 3
      · have hd := hd.1 q3
        have h := fun v e => h v (Eq.trans e (if_pos q3).symm)
        refine xj_E.swk q3 ?_
        refine xj_E.adv 1 (pc' := 88) (ls' := [(4, .int (S 47 a.toNatClampNeg)), (3, .int (r_m_kindOf S a)), (0, .ref 32), (1, .int a), (2, .int b)]) (st' := []) (w' := (SH, S, T)) rfl ?_
        refine xj_E.adv 3 (pc' := (if xj_cmp .ne (r_m_kindOf S a) 3 = true then 102 else 93)) (ls' := [(4, .int (S 47 a.toNatClampNeg)), (3, .int (r_m_kindOf S a)), (0, .ref 32), (1, .int a), (2, .int b)]) (st' := []) (w' := (SH, S, T)) rfl ?_
        refine xj_E.b_ne (fun q => ?_) (fun q => ?_)
        · have hd := hd.1 q
          have h := fun v e => h v (Eq.trans e (if_pos q).symm)
          refine xj_E.adv 1 (pc' := 103) (ls' := [(4, .int (S 47 a.toNatClampNeg)), (3, .int (r_m_kindOf S a)), (0, .ref 32), (1, .int a), (2, .int b)]) (st' := [.int 0]) (w' := (SH, S, T)) rfl ?_
          exact xj_E.ret rfl rfl rfl rfl (h _ rfl)
        · have hd := hd.2 q
          have h := fun v e => h v (Eq.trans e (if_neg q).symm)
          refine xj_E.adv 2 (pc' := (if xj_cmp .ne (S 47 a.toNatClampNeg) 0 = true then 102 else 98)) (ls' := [(4, .int (S 47 a.toNatClampNeg)), (3, .int (r_m_kindOf S a)), (0, .ref 32), (1, .int a), (2, .int b)]) (st' := []) (w' := (SH, S, T)) rfl ?_
          refine xj_E.b_ne (fun q => ?_) (fun q => ?_)
          · have hd := hd.1 q
            have h := fun v e => h v (Eq.trans e (if_pos q).symm)
            refine xj_E.adv 1 (pc' := 103) (ls' := [(4, .int (S 47 a.toNatClampNeg)), (3, .int (r_m_kindOf S a)), (0, .ref 32), (1, .int a), (2, .int b)]) (st' := [.int 0]) (w' := (SH, S, T)) rfl ?_
            exact xj_E.ret rfl rfl rfl rfl (h _ rfl)
          · have hd := hd.2 q
            have h := fun v e => h v (Eq.trans e (if_neg q).symm)
            refine xj_E.adv 2 (pc' := 103) (ls' := [(4, .int (S 47 a.toNatClampNeg)), (3, .int (r_m_kindOf S a)), (0, .ref 32), (1, .int a), (2, .int b)]) (st' := [.int 1]) (w' := (SH, S, T)) rfl ?_
            exact xj_E.ret rfl rfl rfl rfl (h _ rfl)
      · have hd := hd.2 q3
        have h := fun v e => h v (Eq.trans e (if_neg q3).symm)
        by_cases q4 : b = 4
        · have hd := hd.1 q4
          have h := fun v e => h v (Eq.trans e (if_pos q4).symm)
          refine xj_E.swk q4 ?_
          refine xj_E.adv 1 (pc' := 104) (ls' := [(4, .int (S 47 a.toNatClampNeg)), (3, .int (r_m_kindOf S a)), (0, .ref 32), (1, .int a), (2, .int b)]) (st' := []) (w' := (SH, S, T)) rfl ?_
          refine xj_E.adv 3 (pc' := (if xj_cmp .ge (r_m_kindOf S a) 2 = true then 132 else 109)) (ls' := [(4, .int (S 47 a.toNatClampNeg)), (3, .int (r_m_kindOf S a)), (0, .ref 32), (1, .int a), (2, .int b)]) (st' := []) (w' := (SH, S, T)) rfl ?_
          refine xj_E.b_ge (fun q => ?_) (fun q => ?_)
          · have hd := hd.1 q
            have h := fun v e => h v (Eq.trans e (if_pos q).symm)
            refine xj_E.adv 1 (pc' := 133) (ls' := [(4, .int (S 47 a.toNatClampNeg)), (3, .int (r_m_kindOf S a)), (0, .ref 32), (1, .int a), (2, .int b)]) (st' := [.int 0]) (w' := (SH, S, T)) rfl ?_
            exact xj_E.ret rfl rfl rfl rfl (h _ rfl)
          · have hd := hd.2 q
            have h := fun v e => h v (Eq.trans e (if_neg q).symm)
            refine xj_E.adv 3 (pc' := (if xj_cmp .ne (S 47 a.toNatClampNeg) 2 = true then 132 else 115)) (ls' := [(4, .int (S 47 a.toNatClampNeg)), (3, .int (r_m_kindOf S a)), (0, .ref 32), (1, .int a), (2, .int b)]) (st' := []) (w' := (SH, S, T)) rfl ?_
            refine xj_E.b_ne (fun q => ?_) (fun q => ?_)
            · have hd := hd.1 q
              have h := fun v e => h v (Eq.trans e (if_pos q).symm)
              refine xj_E.adv 1 (pc' := 133) (ls' := [(4, .int (S 47 a.toNatClampNeg)), (3, .int (r_m_kindOf S a)), (0, .ref 32), (1, .int a), (2, .int b)]) (st' := [.int 0]) (w' := (SH, S, T)) rfl ?_
              exact xj_E.ret rfl rfl rfl rfl (h _ rfl)
            · have hd := hd.2 q
              have h := fun v e => h v (Eq.trans e (if_neg q).symm)
              refine xj_E.adv 3 (pc' := (if xj_cmp .eq (r_m_kindOf S a) 1 = true then 128 else 120)) (ls' := [(4, .int (S 47 a.toNatClampNeg)), (3, .int (r_m_kindOf S a)), (0, .ref 32), (1, .int a), (2, .int b)]) (st' := []) (w' := (SH, S, T)) rfl ?_
              refine xj_E.b_eq (fun q => ?_) (fun q => ?_)
              · have hd := hd.1 q
                have h := fun v e => h v (Eq.trans e (if_pos q).symm)
                refine xj_E.adv 2 (pc' := 133) (ls' := [(4, .int (S 47 a.toNatClampNeg)), (3, .int (r_m_kindOf S a)), (0, .ref 32), (1, .int a), (2, .int b)]) (st' := [.int 1]) (w' := (SH, S, T)) rfl ?_
                exact xj_E.ret rfl rfl rfl rfl (h _ rfl)
              · have hd := hd.2 q
                have h := fun v e => h v (Eq.trans e (if_neg q).symm)
                refine xj_E.adv 2 (pc' := 122) (ls' := [(4, .int (S 47 a.toNatClampNeg)), (3, .int (r_m_kindOf S a)), (0, .ref 32), (1, .int a), (2, .int b)]) (st' := [.int a, .ref 32]) (w' := (SH, S, T)) rfl ?_
                refine xj_E.calli (d := d + 1) (S := SH) rfl rfl rfl rfl rfl (ok_m_settled hd.1 ?_)
                intro v e
                subst e
                refine ⟨_, S, T, rfl, rfl, rfl, rfl, ?_⟩
                have hd := hd.2
                refine xj_E.adv 1 (pc' := (if xj_cmp .eq (r_m_settled S a) 0 = true then 132 else 128)) (ls' := [(4, .int (S 47 a.toNatClampNeg)), (3, .int (r_m_kindOf S a)), (0, .ref 32), (1, .int a), (2, .int b)]) (st' := []) (w' := (SH, S, T)) rfl ?_
                refine xj_E.b_eq (fun q => ?_) (fun q => ?_)
                · have hd := hd.1 q
                  have h := fun v e => h v (Eq.trans e (if_pos q).symm)
                  refine xj_E.adv 1 (pc' := 133) (ls' := [(4, .int (S 47 a.toNatClampNeg)), (3, .int (r_m_kindOf S a)), (0, .ref 32), (1, .int a), (2, .int b)]) (st' := [.int 0]) (w' := (SH, S, T)) rfl ?_
                  exact xj_E.ret rfl rfl rfl rfl (h _ rfl)
                · have hd := hd.2 q
                  have h := fun v e => h v (Eq.trans e (if_neg q).symm)
                  refine xj_E.adv 2 (pc' := 133) (ls' := [(4, .int (S 47 a.toNatClampNeg)), (3, .int (r_m_kindOf S a)), (0, .ref 32), (1, .int a), (2, .int b)]) (st' := [.int 1]) (w' := (SH, S, T)) rfl ?_
                  exact xj_E.ret rfl rfl rfl rfl (h _ rfl)
        · have hd := hd.2 q4
          have h := fun v e => h v (Eq.trans e (if_neg q4).symm)
          by_cases q5 : b = 5
          · have hd := hd.1 q5
            have h := fun v e => h v (Eq.trans e (if_pos q5).symm)
            refine xj_E.swk q5 ?_
            refine xj_E.adv 1 (pc' := 134) (ls' := [(4, .int (S 47 a.toNatClampNeg)), (3, .int (r_m_kindOf S a)), (0, .ref 32), (1, .int a), (2, .int b)]) (st' := []) (w' := (SH, S, T)) rfl ?_
            refine xj_E.adv 3 (pc' := (if xj_cmp .ge (r_m_kindOf S a) 2 = true then 149 else 139)) (ls' := [(4, .int (S 47 a.toNatClampNeg)), (3, .int (r_m_kindOf S a)), (0, .ref 32), (1, .int a), (2, .int b)]) (st' := []) (w' := (SH, S, T)) rfl ?_
            refine xj_E.b_ge (fun q => ?_) (fun q => ?_)
            · have hd := hd.1 q
              have h := fun v e => h v (Eq.trans e (if_pos q).symm)
              refine xj_E.adv 1 (pc' := 150) (ls' := [(4, .int (S 47 a.toNatClampNeg)), (3, .int (r_m_kindOf S a)), (0, .ref 32), (1, .int a), (2, .int b)]) (st' := [.int 0]) (w' := (SH, S, T)) rfl ?_
              exact xj_E.ret rfl rfl rfl rfl (h _ rfl)
            · have hd := hd.2 q
              have h := fun v e => h v (Eq.trans e (if_neg q).symm)
              refine xj_E.adv 3 (pc' := (if xj_cmp .ne (S 47 a.toNatClampNeg) 2 = true then 149 else 145)) (ls' := [(4, .int (S 47 a.toNatClampNeg)), (3, .int (r_m_kindOf S a)), (0, .ref 32), (1, .int a), (2, .int b)]) (st' := []) (w' := (SH, S, T)) rfl ?_
              refine xj_E.b_ne (fun q => ?_) (fun q => ?_)
              · have hd := hd.1 q
                have h := fun v e => h v (Eq.trans e (if_pos q).symm)
                refine xj_E.adv 1 (pc' := 150) (ls' := [(4, .int (S 47 a.toNatClampNeg)), (3, .int (r_m_kindOf S a)), (0, .ref 32), (1, .int a), (2, .int b)]) (st' := [.int 0]) (w' := (SH, S, T)) rfl ?_
                exact xj_E.ret rfl rfl rfl rfl (h _ rfl)
              · have hd := hd.2 q
                have h := fun v e => h v (Eq.trans e (if_neg q).symm)
                refine xj_E.adv 2 (pc' := 150) (ls' := [(4, .int (S 47 a.toNatClampNeg)), (3, .int (r_m_kindOf S a)), (0, .ref 32), (1, .int a), (2, .int b)]) (st' := [.int 1]) (w' := (SH, S, T)) rfl ?_
                exact xj_E.ret rfl rfl rfl rfl (h _ rfl)
          · have hd := hd.2 q5
            have h := fun v e => h v (Eq.trans e (if_neg q5).symm)
            by_cases q6 : b = 6
            · have hd := hd.1 q6
              have h := fun v e => h v (Eq.trans e (if_pos q6).symm)
              refine xj_E.swk q6 ?_
              refine xj_E.adv 1 (pc' := 151) (ls' := [(4, .int (S 47 a.toNatClampNeg)), (3, .int (r_m_kindOf S a)), (0, .ref 32), (1, .int a), (2, .int b)]) (st' := []) (w' := (SH, S, T)) rfl ?_
              refine xj_E.adv 3 (pc' := (if xj_cmp .ge (r_m_kindOf S a) 2 = true then 166 else 156)) (ls' := [(4, .int (S 47 a.toNatClampNeg)), (3, .int (r_m_kindOf S a)), (0, .ref 32), (1, .int a), (2, .int b)]) (st' := []) (w' := (SH, S, T)) rfl ?_
              refine xj_E.b_ge (fun q => ?_) (fun q => ?_)
              · have hd := hd.1 q
                have h := fun v e => h v (Eq.trans e (if_pos q).symm)
                refine xj_E.adv 1 (pc' := 167) (ls' := [(4, .int (S 47 a.toNatClampNeg)), (3, .int (r_m_kindOf S a)), (0, .ref 32), (1, .int a), (2, .int b)]) (st' := [.int 0]) (w' := (SH, S, T)) rfl ?_
                exact xj_E.ret rfl rfl rfl rfl (h _ rfl)
              · have hd := hd.2 q
                have h := fun v e => h v (Eq.trans e (if_neg q).symm)
                refine xj_E.adv 3 (pc' := (if xj_cmp .ne (S 47 a.toNatClampNeg) 3 = true then 166 else 162)) (ls' := [(4, .int (S 47 a.toNatClampNeg)), (3, .int (r_m_kindOf S a)), (0, .ref 32), (1, .int a), (2, .int b)]) (st' := []) (w' := (SH, S, T)) rfl ?_
                refine xj_E.b_ne (fun q => ?_) (fun q => ?_)
                · have hd := hd.1 q
                  have h := fun v e => h v (Eq.trans e (if_pos q).symm)
                  refine xj_E.adv 1 (pc' := 167) (ls' := [(4, .int (S 47 a.toNatClampNeg)), (3, .int (r_m_kindOf S a)), (0, .ref 32), (1, .int a), (2, .int b)]) (st' := [.int 0]) (w' := (SH, S, T)) rfl ?_
                  exact xj_E.ret rfl rfl rfl rfl (h _ rfl)
                · have hd := hd.2 q
                  have h := fun v e => h v (Eq.trans e (if_neg q).symm)
                  refine xj_E.adv 2 (pc' := 167) (ls' := [(4, .int (S 47 a.toNatClampNeg)), (3, .int (r_m_kindOf S a)), (0, .ref 32), (1, .int a), (2, .int b)]) (st' := [.int 1]) (w' := (SH, S, T)) rfl ?_
                  exact xj_E.ret rfl rfl rfl rfl (h _ rfl)
            · have hd := hd.2 q6
              have h := fun v e => h v (Eq.trans e (if_neg q6).symm)
              by_cases q7 : b = 7
              · have hd := hd.1 q7
                have h := fun v e => h v (Eq.trans e (if_pos q7).symm)
                refine xj_E.swk q7 ?_
                refine xj_E.adv 1 (pc' := 168) (ls' := [(4, .int (S 47 a.toNatClampNeg)), (3, .int (r_m_kindOf S a)), (0, .ref 32), (1, .int a), (2, .int b)]) (st' := []) (w' := (SH, S, T)) rfl ?_
                refine xj_E.adv 3 (pc' := (if xj_cmp .ne (r_m_kindOf S a) 1 = true then 183 else 173)) (ls' := [(4, .int (S 47 a.toNatClampNeg)), (3, .int (r_m_kindOf S a)), (0, .ref 32), (1, .int a), (2, .int b)]) (st' := []) (w' := (SH, S, T)) rfl ?_
                refine xj_E.b_ne (fun q => ?_) (fun q => ?_)
                · have hd := hd.1 q
                  have h := fun v e => h v (Eq.trans e (if_pos q).symm)
                  refine xj_E.adv 1 (pc' := 184) (ls' := [(4, .int (S 47 a.toNatClampNeg)), (3, .int (r_m_kindOf S a)), (0, .ref 32), (1, .int a), (2, .int b)]) (st' := [.int 0]) (w' := (SH, S, T)) rfl ?_
                  exact xj_E.ret rfl rfl rfl rfl (h _ rfl)
                · have hd := hd.2 q
                  have h := fun v e => h v (Eq.trans e (if_neg q).symm)
                  refine xj_E.adv 3 (pc' := (if xj_cmp .ne (S 47 a.toNatClampNeg) 2 = true then 183 else 179)) (ls' := [(4, .int (S 47 a.toNatClampNeg)), (3, .int (r_m_kindOf S a)), (0, .ref 32), (1, .int a), (2, .int b)]) (st' := []) (w' := (SH, S, T)) rfl ?_
                  refine xj_E.b_ne (fun q => ?_) (fun q => ?_)
                  · have hd := hd.1 q
                    have h := fun v e => h v (Eq.trans e (if_pos q).symm)
                    refine xj_E.adv 1 (pc' := 184) (ls' := [(4, .int (S 47 a.toNatClampNeg)), (3, .int (r_m_kindOf S a)), (0, .ref 32), (1, .int a), (2, .int b)]) (st' := [.int 0]) (w' := (SH, S, T)) rfl ?_
                    exact xj_E.ret rfl rfl rfl rfl (h _ rfl)
                  · have hd := hd.2 q
                    have h := fun v e => h v (Eq.trans e (if_neg q).symm)
                    refine xj_E.adv 2 (pc' := 184) (ls' := [(4, .int (S 47 a.toNatClampNeg)), (3, .int (r_m_kindOf S a)), (0, .ref 32), (1, .int a), (2, .int b)]) (st' := [.int 1]) (w' := (SH, S, T)) rfl ?_
                    exact xj_E.ret rfl rfl rfl rfl (h _ rfl)
              · have hd := hd.2 q7
                have h := fun v e => h v (Eq.trans e (if_neg q7).symm)
                by_cases q8 : b = 8
                · have hd := hd.1 q8
                  have h := fun v e => h v (Eq.trans e (if_pos q8).symm)
                  refine xj_E.swk q8 ?_
                  refine xj_E.adv 1 (pc' := 185) (ls' := [(4, .int (S 47 a.toNatClampNeg)), (3, .int (r_m_kindOf S a)), (0, .ref 32), (1, .int a), (2, .int b)]) (st' := []) (w' := (SH, S, T)) rfl ?_
                  refine xj_E.adv 3 (pc' := (if xj_cmp .ne (r_m_kindOf S a) 1 = true then 201 else 190)) (ls' := [(4, .int (S 47 a.toNatClampNeg)), (3, .int (r_m_kindOf S a)), (0, .ref 32), (1, .int a), (2, .int b)]) (st' := []) (w' := (SH, S, T)) rfl ?_
                  refine xj_E.b_ne (fun q => ?_) (fun q => ?_)
                  · have hd := hd.1 q
                    have h := fun v e => h v (Eq.trans e (if_pos q).symm)
                    refine xj_E.adv 1 (pc' := 202) (ls' := [(4, .int (S 47 a.toNatClampNeg)), (3, .int (r_m_kindOf S a)), (0, .ref 32), (1, .int a), (2, .int b)]) (st' := [.int 0]) (w' := (SH, S, T)) rfl ?_
                    exact xj_E.ret rfl rfl rfl rfl (h _ rfl)
                  · have hd := hd.2 q
                    have h := fun v e => h v (Eq.trans e (if_neg q).symm)
                    refine xj_E.adv 3 (pc' := (if xj_cmp .ne (S 47 a.toNatClampNeg) 6 = true then 201 else 197)) (ls' := [(4, .int (S 47 a.toNatClampNeg)), (3, .int (r_m_kindOf S a)), (0, .ref 32), (1, .int a), (2, .int b)]) (st' := []) (w' := (SH, S, T)) rfl ?_
                    refine xj_E.b_ne (fun q => ?_) (fun q => ?_)
                    · have hd := hd.1 q
                      have h := fun v e => h v (Eq.trans e (if_pos q).symm)
                      refine xj_E.adv 1 (pc' := 202) (ls' := [(4, .int (S 47 a.toNatClampNeg)), (3, .int (r_m_kindOf S a)), (0, .ref 32), (1, .int a), (2, .int b)]) (st' := [.int 0]) (w' := (SH, S, T)) rfl ?_
                      exact xj_E.ret rfl rfl rfl rfl (h _ rfl)
                    · have hd := hd.2 q
                      have h := fun v e => h v (Eq.trans e (if_neg q).symm)
                      refine xj_E.adv 2 (pc' := 202) (ls' := [(4, .int (S 47 a.toNatClampNeg)), (3, .int (r_m_kindOf S a)), (0, .ref 32), (1, .int a), (2, .int b)]) (st' := [.int 1]) (w' := (SH, S, T)) rfl ?_
                      exact xj_E.ret rfl rfl rfl rfl (h _ rfl)
                · have hd := hd.2 q8
                  have h := fun v e => h v (Eq.trans e (if_neg q8).symm)
                  refine xj_E.swt rfl (xj_swd (fun z z1 z2 => ?_)) rfl ?_
                  · have hz : z = 2 ∨ z = 3 ∨ z = 4 ∨ z = 5 ∨ z = 6 ∨ z = 7 ∨ z = 8 := by omega
                    rcases hz with rfl | rfl | rfl | rfl | rfl | rfl | rfl
                    · exact fun e => q2 (e.trans (by decide))
                    · exact fun e => q3 (e.trans (by decide))
                    · exact fun e => q4 (e.trans (by decide))
                    · exact fun e => q5 (e.trans (by decide))
                    · exact fun e => q6 (e.trans (by decide))
                    · exact fun e => q7 (e.trans (by decide))
                    · exact fun e => q8 (e.trans (by decide))
                  refine xj_E.adv 2 (pc' := 205) (ls' := [(4, .int (S 47 a.toNatClampNeg)), (3, .int (r_m_kindOf S a)), (0, .ref 32), (1, .int a), (2, .int b)]) (st' := [.int a, .ref 32]) (w' := (SH, S, T)) rfl ?_
                  refine xj_E.calli (d := d + 1) (S := SH) rfl rfl rfl rfl rfl (ok_m_isFinal hd.1 ?_)
                  intro v e
                  subst e
                  refine ⟨_, S, T, rfl, rfl, rfl, rfl, ?_⟩
                  have hd := hd.2
                  refine xj_E.adv 1 (pc' := (if xj_cmp .ne (r_m_isFinal S a) 0 = true then 215 else 211)) (ls' := [(4, .int (S 47 a.toNatClampNeg)), (3, .int (r_m_kindOf S a)), (0, .ref 32), (1, .int a), (2, .int b)]) (st' := []) (w' := (SH, S, T)) rfl ?_
                  refine xj_E.b_ne (fun q => ?_) (fun q => ?_)
                  · have hd := hd.1 q
                    have h := fun v e => h v (Eq.trans e (if_pos q).symm)
                    refine xj_E.adv 1 (pc' := 216) (ls' := [(4, .int (S 47 a.toNatClampNeg)), (3, .int (r_m_kindOf S a)), (0, .ref 32), (1, .int a), (2, .int b)]) (st' := [.int 0]) (w' := (SH, S, T)) rfl ?_
                    exact xj_E.ret rfl rfl rfl rfl (h _ rfl)
                  · have hd := hd.2 q
                    have h := fun v e => h v (Eq.trans e (if_neg q).symm)
                    refine xj_E.adv 2 (pc' := 216) (ls' := [(4, .int (S 47 a.toNatClampNeg)), (3, .int (r_m_kindOf S a)), (0, .ref 32), (1, .int a), (2, .int b)]) (st' := [.int 1]) (w' := (SH, S, T)) rfl ?_
                    exact xj_E.ret rfl rfl rfl rfl (h _ rfl)
  · have hd := hd.2 q
    have h := fun v e => h v (Eq.trans e (if_neg q).symm)
    refine xj_E.adv 2 (pc' := 25) (ls' := [(4, .int (S 47 a.toNatClampNeg)), (3, .int (r_m_kindOf S a)), (0, .ref 32), (1, .int a), (2, .int b)]) (st' := [.int a, .ref 32]) (w' := (SH, S, T)) rfl ?_
    refine xj_E.calli (d := d + 1) (S := SH) rfl rfl rfl rfl rfl (ok_m_parentActive hd.1 ?_)
    intro v e
    subst e
    refine ⟨_, S, T, rfl, rfl, rfl, rfl, ?_⟩
    have hd := hd.2
    refine xj_E.adv 1 (pc' := (if xj_cmp .ne (r_m_parentActive S a) 0 = true then 33 else 31)) (ls' := [(4, .int (S 47 a.toNatClampNeg)), (3, .int (r_m_kindOf S a)), (0, .ref 32), (1, .int a), (2, .int b)]) (st' := []) (w' := (SH, S, T)) rfl ?_
    refine xj_E.b_ne (fun q => ?_) (fun q => ?_)
    · have hd := hd.1 q
      have h := fun v e => h v (Eq.trans e (if_pos q).symm)
      refine xj_E.adv 1 (pc' := 34) (ls' := [(4, .int (S 47 a.toNatClampNeg)), (3, .int (r_m_kindOf S a)), (0, .ref 32), (1, .int a), (2, .int b)]) (st' := [.int b]) (w' := (SH, S, T)) rfl ?_
      by_cases q2 : b = 2
      · have hd := hd.1 q2
        have h := fun v e => h v (Eq.trans e (if_pos q2).symm)
        refine xj_E.swk q2 ?_
        refine xj_E.adv 1 (pc' := 76) (ls' := [(4, .int (S 47 a.toNatClampNeg)), (3, .int (r_m_kindOf S a)), (0, .ref 32), (1, .int a), (2, .int b)]) (st' := []) (w' := (SH, S, T)) rfl ?_
        refine xj_E.adv 3 (pc' := (if xj_cmp .ne (S 47 a.toNatClampNeg) 1 = true then 86 else 82)) (ls' := [(4, .int (S 47 a.toNatClampNeg)), (3, .int (r_m_kindOf S a)), (0, .ref 32), (1, .int a), (2, .int b)]) (st' := []) (w' := (SH, S, T)) rfl ?_
        refine xj_E.b_ne (fun q => ?_) (fun q => ?_)
        · have hd := hd.1 q
          have h := fun v e => h v (Eq.trans e (if_pos q).symm)
          refine xj_E.adv 1 (pc' := 87) (ls' := [(4, .int (S 47 a.toNatClampNeg)), (3, .int (r_m_kindOf S a)), (0, .ref 32), (1, .int a), (2, .int b)]) (st' := [.int 0]) (w' := (SH, S, T)) rfl ?_
          exact xj_E.ret rfl rfl rfl rfl (h _ rfl)
        · have hd := hd.2 q
          have h := fun v e => h v (Eq.trans e (if_neg q).symm)
          refine xj_E.adv 2 (pc' := 87) (ls' := [(4, .int (S 47 a.toNatClampNeg)), (3, .int (r_m_kindOf S a)), (0, .ref 32), (1, .int a), (2, .int b)]) (st' := [.int 1]) (w' := (SH, S, T)) rfl ?_
          exact xj_E.ret rfl rfl rfl rfl (h _ rfl)
      · have hd := hd.2 q2
        have h := fun v e => h v (Eq.trans e (if_neg q2).symm)
        by_cases q3 : b = 3
        · have hd := hd.1 q3
          have h := fun v e => h v (Eq.trans e (if_pos q3).symm)
          refine xj_E.swk q3 ?_
          refine xj_E.adv 1 (pc' := 88) (ls' := [(4, .int (S 47 a.toNatClampNeg)), (3, .int (r_m_kindOf S a)), (0, .ref 32), (1, .int a), (2, .int b)]) (st' := []) (w' := (SH, S, T)) rfl ?_
          refine xj_E.adv 3 (pc' := (if xj_cmp .ne (r_m_kindOf S a) 3 = true then 102 else 93)) (ls' := [(4, .int (S 47 a.toNatClampNeg)), (3, .int (r_m_kindOf S a)), (0, .ref 32), (1, .int a), (2, .int b)]) (st' := []) (w' := (SH, S, T)) rfl ?_
          refine xj_E.b_ne (fun q => ?_) (fun q => ?_)
          · have hd := hd.1 q
            have h := fun v e => h v (Eq.trans e (if_pos q).symm)
            refine xj_E.adv 1 (pc' := 103) (ls' := [(4, .int (S 47 a.toNatClampNeg)), (3, .int (r_m_kindOf S a)), (0, .ref 32), (1, .int a), (2, .int b)]) (st' := [.int 0]) (w' := (SH, S, T)) rfl ?_
            exact xj_E.ret rfl rfl rfl rfl (h _ rfl)
          · have hd := hd.2 q
            have h := fun v e => h v (Eq.trans e (if_neg q).symm)
            refine xj_E.adv 2 (pc' := (if xj_cmp .ne (S 47 a.toNatClampNeg) 0 = true then 102 else 98)) (ls' := [(4, .int (S 47 a.toNatClampNeg)), (3, .int (r_m_kindOf S a)), (0, .ref 32), (1, .int a), (2, .int b)]) (st' := []) (w' := (SH, S, T)) rfl ?_
            refine xj_E.b_ne (fun q => ?_) (fun q => ?_)
            · have hd := hd.1 q
              have h := fun v e => h v (Eq.trans e (if_pos q).symm)
              refine xj_E.adv 1 (pc' := 103) (ls' := [(4, .int (S 47 a.toNatClampNeg)), (3, .int (r_m_kindOf S a)), (0, .ref 32), (1, .int a), (2, .int b)]) (st' := [.int 0]) (w' := (SH, S, T)) rfl ?_
              exact xj_E.ret rfl rfl rfl rfl (h _ rfl)
            · have hd := hd.2 q
              have h := fun v e => h v (Eq.trans e (if_neg q).symm)
              refine xj_E.adv 2 (pc' := 103) (ls' := [(4, .int (S 47 a.toNatClampNeg)), (3, .int (r_m_kindOf S a)), (0, .ref 32), (1, .int a), (2, .int b)]) (st' := [.int 1]) (w' := (SH, S, T)) rfl ?_
              exact xj_E.ret rfl rfl rfl rfl (h _ rfl)
        · have hd := hd.2 q3
          have h := fun v e => h v (Eq.trans e (if_neg q3).symm)
          by_cases q4 : b = 4
          · have hd := hd.1 q4
            have h := fun v e => h v (Eq.trans e (if_pos q4).symm)
            refine xj_E.swk q4 ?_
            refine xj_E.adv 1 (pc' := 104) (ls' := [(4, .int (S 47 a.toNatClampNeg)), (3, .int (r_m_kindOf S a)), (0, .ref 32), (1, .int a), (2, .int b)]) (st' := []) (w' := (SH, S, T)) rfl ?_
            refine xj_E.adv 3 (pc' := (if xj_cmp .ge (r_m_kindOf S a) 2 = true then 132 else 109)) (ls' := [(4, .int (S 47 a.toNatClampNeg)), (3, .int (r_m_kindOf S a)), (0, .ref 32), (1, .int a), (2, .int b)]) (st' := []) (w' := (SH, S, T)) rfl ?_
            refine xj_E.b_ge (fun q => ?_) (fun q => ?_)
            · have hd := hd.1 q
              have h := fun v e => h v (Eq.trans e (if_pos q).symm)
              refine xj_E.adv 1 (pc' := 133) (ls' := [(4, .int (S 47 a.toNatClampNeg)), (3, .int (r_m_kindOf S a)), (0, .ref 32), (1, .int a), (2, .int b)]) (st' := [.int 0]) (w' := (SH, S, T)) rfl ?_
              exact xj_E.ret rfl rfl rfl rfl (h _ rfl)
            · have hd := hd.2 q
              have h := fun v e => h v (Eq.trans e (if_neg q).symm)
              refine xj_E.adv 3 (pc' := (if xj_cmp .ne (S 47 a.toNatClampNeg) 2 = true then 132 else 115)) (ls' := [(4, .int (S 47 a.toNatClampNeg)), (3, .int (r_m_kindOf S a)), (0, .ref 32), (1, .int a), (2, .int b)]) (st' := []) (w' := (SH, S, T)) rfl ?_
              refine xj_E.b_ne (fun q => ?_) (fun q => ?_)
              · have hd := hd.1 q
                have h := fun v e => h v (Eq.trans e (if_pos q).symm)
                refine xj_E.adv 1 (pc' := 133) (ls' := [(4, .int (S 47 a.toNatClampNeg)), (3, .int (r_m_kindOf S a)), (0, .ref 32), (1, .int a), (2, .int b)]) (st' := [.int 0]) (w' := (SH, S, T)) rfl ?_
                exact xj_E.ret rfl rfl rfl rfl (h _ rfl)
              · have hd := hd.2 q
                have h := fun v e => h v (Eq.trans e (if_neg q).symm)
                refine xj_E.adv 3 (pc' := (if xj_cmp .eq (r_m_kindOf S a) 1 = true then 128 else 120)) (ls' := [(4, .int (S 47 a.toNatClampNeg)), (3, .int (r_m_kindOf S a)), (0, .ref 32), (1, .int a), (2, .int b)]) (st' := []) (w' := (SH, S, T)) rfl ?_
                refine xj_E.b_eq (fun q => ?_) (fun q => ?_)
                · have hd := hd.1 q
                  have h := fun v e => h v (Eq.trans e (if_pos q).symm)
                  refine xj_E.adv 2 (pc' := 133) (ls' := [(4, .int (S 47 a.toNatClampNeg)), (3, .int (r_m_kindOf S a)), (0, .ref 32), (1, .int a), (2, .int b)]) (st' := [.int 1]) (w' := (SH, S, T)) rfl ?_
                  exact xj_E.ret rfl rfl rfl rfl (h _ rfl)
                · have hd := hd.2 q
                  have h := fun v e => h v (Eq.trans e (if_neg q).symm)
                  refine xj_E.adv 2 (pc' := 122) (ls' := [(4, .int (S 47 a.toNatClampNeg)), (3, .int (r_m_kindOf S a)), (0, .ref 32), (1, .int a), (2, .int b)]) (st' := [.int a, .ref 32]) (w' := (SH, S, T)) rfl ?_
                  refine xj_E.calli (d := d + 1) (S := SH) rfl rfl rfl rfl rfl (ok_m_settled hd.1 ?_)
                  intro v e
                  subst e
                  refine ⟨_, S, T, rfl, rfl, rfl, rfl, ?_⟩
                  have hd := hd.2
                  refine xj_E.adv 1 (pc' := (if xj_cmp .eq (r_m_settled S a) 0 = true then 132 else 128)) (ls' := [(4, .int (S 47 a.toNatClampNeg)), (3, .int (r_m_kindOf S a)), (0, .ref 32), (1, .int a), (2, .int b)]) (st' := []) (w' := (SH, S, T)) rfl ?_
                  refine xj_E.b_eq (fun q => ?_) (fun q => ?_)
                  · have hd := hd.1 q
                    have h := fun v e => h v (Eq.trans e (if_pos q).symm)
                    refine xj_E.adv 1 (pc' := 133) (ls' := [(4, .int (S 47 a.toNatClampNeg)), (3, .int (r_m_kindOf S a)), (0, .ref 32), (1, .int a), (2, .int b)]) (st' := [.int 0]) (w' := (SH, S, T)) rfl ?_
                    exact xj_E.ret rfl rfl rfl rfl (h _ rfl)
                  · have hd := hd.2 q
                    have h := fun v e => h v (Eq.trans e (if_neg q).symm)
                    refine xj_E.adv 2 (pc' := 133) (ls' := [(4, .int (S 47 a.toNatClampNeg)), (3, .int (r_m_kindOf S a)), (0, .ref 32), (1, .int a), (2, .int b)]) (st' := [.int 1]) (w' := (SH, S, T)) rfl ?_
                    exact xj_E.ret rfl rfl rfl rfl (h _ rfl)
          · have hd := hd.2 q4
            have h := fun v e => h v (Eq.trans e (if_neg q4).symm)
            by_cases q5 : b = 5
            · have hd := hd.1 q5
              have h := fun v e => h v (Eq.trans e (if_pos q5).symm)
              refine xj_E.swk q5 ?_
              refine xj_E.adv 1 (pc' := 134) (ls' := [(4, .int (S 47 a.toNatClampNeg)), (3, .int (r_m_kindOf S a)), (0, .ref 32), (1, .int a), (2, .int b)]) (st' := []) (w' := (SH, S, T)) rfl ?_
              refine xj_E.adv 3 (pc' := (if xj_cmp .ge (r_m_kindOf S a) 2 = true then 149 else 139)) (ls' := [(4, .int (S 47 a.toNatClampNeg)), (3, .int (r_m_kindOf S a)), (0, .ref 32), (1, .int a), (2, .int b)]) (st' := []) (w' := (SH, S, T)) rfl ?_
              refine xj_E.b_ge (fun q => ?_) (fun q => ?_)
              · have hd := hd.1 q
                have h := fun v e => h v (Eq.trans e (if_pos q).symm)
                refine xj_E.adv 1 (pc' := 150) (ls' := [(4, .int (S 47 a.toNatClampNeg)), (3, .int (r_m_kindOf S a)), (0, .ref 32), (1, .int a), (2, .int b)]) (st' := [.int 0]) (w' := (SH, S, T)) rfl ?_
                exact xj_E.ret rfl rfl rfl rfl (h _ rfl)
              · have hd := hd.2 q
                have h := fun v e => h v (Eq.trans e (if_neg q).symm)
                refine xj_E.adv 3 (pc' := (if xj_cmp .ne (S 47 a.toNatClampNeg) 2 = true then 149 else 145)) (ls' := [(4, .int (S 47 a.toNatClampNeg)), (3, .int (r_m_kindOf S a)), (0, .ref 32), (1, .int a), (2, .int b)]) (st' := []) (w' := (SH, S, T)) rfl ?_
                refine xj_E.b_ne (fun q => ?_) (fun q => ?_)
                · have hd := hd.1 q
                  have h := fun v e => h v (Eq.trans e (if_pos q).symm)
                  refine xj_E.adv 1 (pc' := 150) (ls' := [(4, .int (S 47 a.toNatClampNeg)), (3, .int (r_m_kindOf S a)), (0, .ref 32), (1, .int a), (2, .int b)]) (st' := [.int 0]) (w' := (SH, S, T)) rfl ?_
                  exact xj_E.ret rfl rfl rfl rfl (h _ rfl)
                · have hd := hd.2 q
                  have h := fun v e => h v (Eq.trans e (if_neg q).symm)
                  refine xj_E.adv 2 (pc' := 150) (ls' := [(4, .int (S 47 a.toNatClampNeg)), (3, .int (r_m_kindOf S a)), (0, .ref 32), (1, .int a), (2, .int b)]) (st' := [.int 1]) (w' := (SH, S, T)) rfl ?_
                  exact xj_E.ret rfl rfl rfl rfl (h _ rfl)
            · have hd := hd.2 q5
              have h := fun v e => h v (Eq.trans e (if_neg q5).symm)
              by_cases q6 : b = 6
              · have hd := hd.1 q6
                have h := fun v e => h v (Eq.trans e (if_pos q6).symm)
                refine xj_E.swk q6 ?_
                refine xj_E.adv 1 (pc' := 151) (ls' := [(4, .int (S 47 a.toNatClampNeg)), (3, .int (r_m_kindOf S a)), (0, .ref 32), (1, .int a), (2, .int b)]) (st' := []) (w' := (SH, S, T)) rfl ?_
                refine xj_E.adv 3 (pc' := (if xj_cmp .ge (r_m_kindOf S a) 2 = true then 166 else 156)) (ls' := [(4, .int (S 47 a.toNatClampNeg)), (3, .int (r_m_kindOf S a)), (0, .ref 32), (1, .int a), (2, .int b)]) (st' := []) (w' := (SH, S, T)) rfl ?_
                refine xj_E.b_ge (fun q => ?_) (fun q => ?_)
                · have hd := hd.1 q
                  have h := fun v e => h v (Eq.trans e (if_pos q).symm)
                  refine xj_E.adv 1 (pc' := 167) (ls' := [(4, .int (S 47 a.toNatClampNeg)), (3, .int (r_m_kindOf S a)), (0, .ref 32), (1, .int a), (2, .int b)]) (st' := [.int 0]) (w' := (SH, S, T)) rfl ?_
                  exact xj_E.ret rfl rfl rfl rfl (h _ rfl)
                · have hd := hd.2 q
                  have h := fun v e => h v (Eq.trans e (if_neg q).symm)
                  refine xj_E.adv 3 (pc' := (if xj_cmp .ne (S 47 a.toNatClampNeg) 3 = true then 166 else 162)) (ls' := [(4, .int (S 47 a.toNatClampNeg)), (3, .int (r_m_kindOf S a)), (0, .ref 32), (1, .int a), (2, .int b)]) (st' := []) (w' := (SH, S, T)) rfl ?_
                  refine xj_E.b_ne (fun q => ?_) (fun q => ?_)
                  · have hd := hd.1 q
                    have h := fun v e => h v (Eq.trans e (if_pos q).symm)
                    refine xj_E.adv 1 (pc' := 167) (ls' := [(4, .int (S 47 a.toNatClampNeg)), (3, .int (r_m_kindOf S a)), (0, .ref 32), (1, .int a), (2, .int b)]) (st' := [.int 0]) (w' := (SH, S, T)) rfl ?_
                    exact xj_E.ret rfl rfl rfl rfl (h _ rfl)
                  · have hd := hd.2 q
                    have h := fun v e => h v (Eq.trans e (if_neg q).symm)
                    refine xj_E.adv 2 (pc' := 167) (ls' := [(4, .int (S 47 a.toNatClampNeg)), (3, .int (r_m_kindOf S a)), (0, .ref 32), (1, .int a), (2, .int b)]) (st' := [.int 1]) (w' := (SH, S, T)) rfl ?_
                    exact xj_E.ret rfl rfl rfl rfl (h _ rfl)
              · have hd := hd.2 q6
                have h := fun v e => h v (Eq.trans e (if_neg q6).symm)
                by_cases q7 : b = 7
                · have hd := hd.1 q7
                  have h := fun v e => h v (Eq.trans e (if_pos q7).symm)
                  refine xj_E.swk q7 ?_
                  refine xj_E.adv 1 (pc' := 168) (ls' := [(4, .int (S 47 a.toNatClampNeg)), (3, .int (r_m_kindOf S a)), (0, .ref 32), (1, .int a), (2, .int b)]) (st' := []) (w' := (SH, S, T)) rfl ?_
                  refine xj_E.adv 3 (pc' := (if xj_cmp .ne (r_m_kindOf S a) 1 = true then 183 else 173)) (ls' := [(4, .int (S 47 a.toNatClampNeg)), (3, .int (r_m_kindOf S a)), (0, .ref 32), (1, .int a), (2, .int b)]) (st' := []) (w' := (SH, S, T)) rfl ?_
                  refine xj_E.b_ne (fun q => ?_) (fun q => ?_)
                  · have hd := hd.1 q
                    have h := fun v e => h v (Eq.trans e (if_pos q).symm)
                    refine xj_E.adv 1 (pc' := 184) (ls' := [(4, .int (S 47 a.toNatClampNeg)), (3, .int (r_m_kindOf S a)), (0, .ref 32), (1, .int a), (2, .int b)]) (st' := [.int 0]) (w' := (SH, S, T)) rfl ?_
                    exact xj_E.ret rfl rfl rfl rfl (h _ rfl)
                  · have hd := hd.2 q
                    have h := fun v e => h v (Eq.trans e (if_neg q).symm)
                    refine xj_E.adv 3 (pc' := (if xj_cmp .ne (S 47 a.toNatClampNeg) 2 = true then 183 else 179)) (ls' := [(4, .int (S 47 a.toNatClampNeg)), (3, .int (r_m_kindOf S a)), (0, .ref 32), (1, .int a), (2, .int b)]) (st' := []) (w' := (SH, S, T)) rfl ?_
                    refine xj_E.b_ne (fun q => ?_) (fun q => ?_)
                    · have hd := hd.1 q
                      have h := fun v e => h v (Eq.trans e (if_pos q).symm)
                      refine xj_E.adv 1 (pc' := 184) (ls' := [(4, .int (S 47 a.toNatClampNeg)), (3, .int (r_m_kindOf S a)), (0, .ref 32), (1, .int a), (2, .int b)]) (st' := [.int 0]) (w' := (SH, S, T)) rfl ?_
                      exact xj_E.ret rfl rfl rfl rfl (h _ rfl)
                    · have hd := hd.2 q
                      have h := fun v e => h v (Eq.trans e (if_neg q).symm)
                      refine xj_E.adv 2 (pc' := 184) (ls' := [(4, .int (S 47 a.toNatClampNeg)), (3, .int (r_m_kindOf S a)), (0, .ref 32), (1, .int a), (2, .int b)]) (st' := [.int 1]) (w' := (SH, S, T)) rfl ?_
                      exact xj_E.ret rfl rfl rfl rfl (h _ rfl)
                · have hd := hd.2 q7
                  have h := fun v e => h v (Eq.trans e (if_neg q7).symm)
                  by_cases q8 : b = 8
                  · have hd := hd.1 q8
                    have h := fun v e => h v (Eq.trans e (if_pos q8).symm)
                    refine xj_E.swk q8 ?_
                    refine xj_E.adv 1 (pc' := 185) (ls' := [(4, .int (S 47 a.toNatClampNeg)), (3, .int (r_m_kindOf S a)), (0, .ref 32), (1, .int a), (2, .int b)]) (st' := []) (w' := (SH, S, T)) rfl ?_
                    refine xj_E.adv 3 (pc' := (if xj_cmp .ne (r_m_kindOf S a) 1 = true then 201 else 190)) (ls' := [(4, .int (S 47 a.toNatClampNeg)), (3, .int (r_m_kindOf S a)), (0, .ref 32), (1, .int a), (2, .int b)]) (st' := []) (w' := (SH, S, T)) rfl ?_
                    refine xj_E.b_ne (fun q => ?_) (fun q => ?_)
                    · have hd := hd.1 q
                      have h := fun v e => h v (Eq.trans e (if_pos q).symm)
                      refine xj_E.adv 1 (pc' := 202) (ls' := [(4, .int (S 47 a.toNatClampNeg)), (3, .int (r_m_kindOf S a)), (0, .ref 32), (1, .int a), (2, .int b)]) (st' := [.int 0]) (w' := (SH, S, T)) rfl ?_
                      exact xj_E.ret rfl rfl rfl rfl (h _ rfl)
                    · have hd := hd.2 q
                      have h := fun v e => h v (Eq.trans e (if_neg q).symm)
                      refine xj_E.adv 3 (pc' := (if xj_cmp .ne (S 47 a.toNatClampNeg) 6 = true then 201 else 197)) (ls' := [(4, .int (S 47 a.toNatClampNeg)), (3, .int (r_m_kindOf S a)), (0, .ref 32), (1, .int a), (2, .int b)]) (st' := []) (w' := (SH, S, T)) rfl ?_
                      refine xj_E.b_ne (fun q => ?_) (fun q => ?_)
                      · have hd := hd.1 q
                        have h := fun v e => h v (Eq.trans e (if_pos q).symm)
                        refine xj_E.adv 1 (pc' := 202) (ls' := [(4, .int (S 47 a.toNatClampNeg)), (3, .int (r_m_kindOf S a)), (0, .ref 32), (1, .int a), (2, .int b)]) (st' := [.int 0]) (w' := (SH, S, T)) rfl ?_
                        exact xj_E.ret rfl rfl rfl rfl (h _ rfl)
                      · have hd := hd.2 q
                        have h := fun v e => h v (Eq.trans e (if_neg q).symm)
                        refine xj_E.adv 2 (pc' := 202) (ls' := [(4, .int (S 47 a.toNatClampNeg)), (3, .int (r_m_kindOf S a)), (0, .ref 32), (1, .int a), (2, .int b)]) (st' := [.int 1]) (w' := (SH, S, T)) rfl ?_
                        exact xj_E.ret rfl rfl rfl rfl (h _ rfl)
                  · have hd := hd.2 q8
                    have h := fun v e => h v (Eq.trans e (if_neg q8).symm)
                    refine xj_E.swt rfl (xj_swd (fun z z1 z2 => ?_)) rfl ?_
                    · have hz : z = 2 ∨ z = 3 ∨ z = 4 ∨ z = 5 ∨ z = 6 ∨ z = 7 ∨ z = 8 := by omega
                      rcases hz with rfl | rfl | rfl | rfl | rfl | rfl | rfl
                      · exact fun e => q2 (e.trans (by decide))
                      · exact fun e => q3 (e.trans (by decide))
                      · exact fun e => q4 (e.trans (by decide))
                      · exact fun e => q5 (e.trans (by decide))
                      · exact fun e => q6 (e.trans (by decide))
                      · exact fun e => q7 (e.trans (by decide))
                      · exact fun e => q8 (e.trans (by decide))
                    refine xj_E.adv 2 (pc' := 205) (ls' := [(4, .int (S 47 a.toNatClampNeg)), (3, .int (r_m_kindOf S a)), (0, .ref 32), (1, .int a), (2, .int b)]) (st' := [.int a, .ref 32]) (w' := (SH, S, T)) rfl ?_
                    refine xj_E.calli (d := d + 1) (S := SH) rfl rfl rfl rfl rfl (ok_m_isFinal hd.1 ?_)
                    intro v e
                    subst e
                    refine ⟨_, S, T, rfl, rfl, rfl, rfl, ?_⟩
                    have hd := hd.2
                    refine xj_E.adv 1 (pc' := (if xj_cmp .ne (r_m_isFinal S a) 0 = true then 215 else 211)) (ls' := [(4, .int (S 47 a.toNatClampNeg)), (3, .int (r_m_kindOf S a)), (0, .ref 32), (1, .int a), (2, .int b)]) (st' := []) (w' := (SH, S, T)) rfl ?_
                    refine xj_E.b_ne (fun q => ?_) (fun q => ?_)
                    · have hd := hd.1 q
                      have h := fun v e => h v (Eq.trans e (if_pos q).symm)
                      refine xj_E.adv 1 (pc' := 216) (ls' := [(4, .int (S 47 a.toNatClampNeg)), (3, .int (r_m_kindOf S a)), (0, .ref 32), (1, .int a), (2, .int b)]) (st' := [.int 0]) (w' := (SH, S, T)) rfl ?_
                      exact xj_E.ret rfl rfl rfl rfl (h _ rfl)
                    · have hd := hd.2 q
                      have h := fun v e => h v (Eq.trans e (if_neg q).symm)
                      refine xj_E.adv 2 (pc' := 216) (ls' := [(4, .int (S 47 a.toNatClampNeg)), (3, .int (r_m_kindOf S a)), (0, .ref 32), (1, .int a), (2, .int b)]) (st' := [.int 1]) (w' := (SH, S, T)) rfl ?_
                      exact xj_E.ret rfl rfl rfl rfl (h _ rfl)
    · have hd := hd.2 q
      have h := fun v e => h v (Eq.trans e (if_neg q).symm)
      refine xj_E.adv 1 (pc' := 32) (ls' := [(4, .int (S 47 a.toNatClampNeg)), (3, .int (r_m_kindOf S a)), (0, .ref 32), (1, .int a), (2, .int b)]) (st' := [.int 0]) (w' := (SH, S, T)) rfl ?_
      exact xj_E.ret rfl rfl rfl rfl (h _ rfl)
set_option maxRecDepth 100000 in
theorem ok_m_refusal {L d : Nat} {xs : Nat → Int32} {S : Nat → Nat → Int32} {T : Nat → Nat → Int64} {P : (Option Value ⊕ Nat) → xj_W → Nat → Nat → Prop} {a b : Int32} (hd : d_m_refusal S a b) (h : ∀ v, v = r_m_refusal S a b → P (.inl (some (.int v))) (SH, S, T) 0 0) : xj_E (xX L xs) (d + 3) 103 0 [(0, .ref 32), (1, .int a), (2, .int b)] [] (SH, S, T) P := by
  unfold d_m_refusal at hd
  unfold r_m_refusal at h
  refine xj_E.adv 3 (pc' := (if xj_cmp .eq (S 32 15) 0 = true then 19 else 7)) (ls' := [(0, .ref 32), (1, .int a), (2, .int b)]) (st' := []) (w' := (SH, S, T)) rfl ?_
  refine xj_E.b_eq (fun q => ?_) (fun q => ?_)
  · have hd := hd.1 q
    have h := fun v e => h v (Eq.trans e (if_pos q).symm)
    refine xj_E.adv 1 (pc' := 20) (ls' := [(0, .ref 32), (1, .int a), (2, .int b)]) (st' := [.int 1]) (w' := (SH, S, T)) rfl ?_
    exact xj_E.ret rfl rfl rfl rfl (h _ rfl)
  · have hd := hd.2 q
    have h := fun v e => h v (Eq.trans e (if_neg q).symm)
    refine xj_E.adv 2 (pc' := (if xj_cmp .lt a 0 = true then 19 else 11)) (ls' := [(0, .ref 32), (1, .int a), (2, .int b)]) (st' := []) (w' := (SH, S, T)) rfl ?_
    refine xj_E.b_lt (fun q => ?_) (fun q => ?_)
    · have hd := hd.1 q
      have h := fun v e => h v (Eq.trans e (if_pos q).symm)
      refine xj_E.adv 1 (pc' := 20) (ls' := [(0, .ref 32), (1, .int a), (2, .int b)]) (st' := [.int 1]) (w' := (SH, S, T)) rfl ?_
      exact xj_E.ret rfl rfl rfl rfl (h _ rfl)
    · have hd := hd.2 q
      have h := fun v e => h v (Eq.trans e (if_neg q).symm)
      refine xj_E.adv 4 (pc' := (if xj_cmp .lt a (S 32 17) = true then 21 else 19)) (ls' := [(0, .ref 32), (1, .int a), (2, .int b)]) (st' := []) (w' := (SH, S, T)) rfl ?_
      refine xj_E.b_lt (fun q => ?_) (fun q => ?_)
      · have hd := hd.1 q
        have h := fun v e => h v (Eq.trans e (if_pos q).symm)
        refine xj_E.adv 3 (pc' := (if xj_cmp .lt b 2 = true then 32 else 26)) (ls' := [(0, .ref 32), (1, .int a), (2, .int b)]) (st' := []) (w' := (SH, S, T)) rfl ?_
        refine xj_E.b_lt (fun q => ?_) (fun q => ?_)
        · have hd := hd.1 q
          have h := fun v e => h v (Eq.trans e (if_pos q).symm)
          refine xj_E.adv 1 (pc' := 33) (ls' := [(0, .ref 32), (1, .int a), (2, .int b)]) (st' := [.int 2]) (w' := (SH, S, T)) rfl ?_
          exact xj_E.ret rfl rfl rfl rfl (h _ rfl)
        · have hd := hd.2 q
          have h := fun v e => h v (Eq.trans e (if_neg q).symm)
          refine xj_E.adv 3 (pc' := (if xj_cmp .le b 9 = true then 34 else 32)) (ls' := [(0, .ref 32), (1, .int a), (2, .int b)]) (st' := []) (w' := (SH, S, T)) rfl ?_
          refine xj_E.b_le (fun q => ?_) (fun q => ?_)
          · have hd := hd.1 q
            have h := fun v e => h v (Eq.trans e (if_pos q).symm)
            refine xj_E.adv 3 (pc' := 37) (ls' := [(0, .ref 32), (1, .int a), (2, .int b)]) (st' := [.int b, .int a, .ref 32]) (w' := (SH, S, T)) rfl ?_
            refine xj_E.calli (d := d + 2) (S := SH) rfl rfl rfl rfl rfl (ok_m_allowed hd.1 ?_)
            intro v e
            subst e
            refine ⟨_, S, T, rfl, rfl, rfl, rfl, ?_⟩
            have hd := hd.2
            refine xj_E.adv 1 (pc' := (if xj_cmp .eq (r_m_allowed S a b) 0 = true then 47 else 43)) (ls' := [(0, .ref 32), (1, .int a), (2, .int b)]) (st' := []) (w' := (SH, S, T)) rfl ?_
            refine xj_E.b_eq (fun q => ?_) (fun q => ?_)
            · have hd := hd.1 q
              have h := fun v e => h v (Eq.trans e (if_pos q).symm)
              refine xj_E.adv 1 (pc' := 48) (ls' := [(0, .ref 32), (1, .int a), (2, .int b)]) (st' := [.int 3]) (w' := (SH, S, T)) rfl ?_
              exact xj_E.ret rfl rfl rfl rfl (h _ rfl)
            · have hd := hd.2 q
              have h := fun v e => h v (Eq.trans e (if_neg q).symm)
              refine xj_E.adv 2 (pc' := 48) (ls' := [(0, .ref 32), (1, .int a), (2, .int b)]) (st' := [.int 0]) (w' := (SH, S, T)) rfl ?_
              exact xj_E.ret rfl rfl rfl rfl (h _ rfl)
          · have hd := hd.2 q
            have h := fun v e => h v (Eq.trans e (if_neg q).symm)
            refine xj_E.adv 1 (pc' := 33) (ls' := [(0, .ref 32), (1, .int a), (2, .int b)]) (st' := [.int 2]) (w' := (SH, S, T)) rfl ?_
            exact xj_E.ret rfl rfl rfl rfl (h _ rfl)
      · have hd := hd.2 q
        have h := fun v e => h v (Eq.trans e (if_neg q).symm)
        refine xj_E.adv 1 (pc' := 20) (ls' := [(0, .ref 32), (1, .int a), (2, .int b)]) (st' := [.int 1]) (w' := (SH, S, T)) rfl ?_
        exact xj_E.ret rfl rfl rfl rfl (h _ rfl)
set_option maxRecDepth 100000 in
theorem ok_p_mayHear {L d : Nat} {xs : Nat → Int32} {S : Nat → Nat → Int32} {T : Nat → Nat → Int64} {P : (Option Value ⊕ Nat) → xj_W → Nat → Nat → Prop} {a b c : Int32} (hd : d_p_mayHear S a b c) (h : ∀ v, v = r_p_mayHear S a b c → P (.inl (some (.int v))) (SH, S, T) 0 0) : xj_E (xX L xs) (d + 1) 21 0 [(0, .ref 1), (1, .int a), (2, .int b), (3, .int c)] [] (SH, S, T) P := by
  unfold d_p_mayHear at hd
  unfold r_p_mayHear at h
  refine xj_E.adv 3 (pc' := (if xj_cmp .lt b 100 = true then 14 else 6)) (ls' := [(0, .ref 1), (1, .int a), (2, .int b), (3, .int c)]) (st' := []) (w' := (SH, S, T)) rfl ?_
  refine xj_E.b_lt (fun q => ?_) (fun q => ?_)
  · have hd := hd.1 q
    have h := fun v e => h v (Eq.trans e (if_pos q).symm)
    refine xj_E.adv 2 (pc' := 16) (ls' := [(0, .ref 1), (1, .int a), (2, .int b), (3, .int c)]) (st' := [.int b, .ref 1]) (w' := (SH, S, T)) rfl ?_
    refine xj_E.calli (d := d) (S := SH) rfl rfl rfl rfl rfl (ok_p_hasItem hd.1 ?_)
    intro v e
    subst e
    refine ⟨_, S, T, rfl, rfl, rfl, rfl, ?_⟩
    have hd := hd.2
    refine xj_E.adv 1 (pc' := (if xj_cmp .eq (r_p_hasItem S b) 0 = true then 66 else 22)) (ls' := [(0, .ref 1), (1, .int a), (2, .int b), (3, .int c)]) (st' := []) (w' := (SH, S, T)) rfl ?_
    refine xj_E.b_eq (fun q => ?_) (fun q => ?_)
    · have hd := hd.1 q
      have h := fun v e => h v (Eq.trans e (if_pos q).symm)
      refine xj_E.adv 1 (pc' := 67) (ls' := [(0, .ref 1), (1, .int a), (2, .int b), (3, .int c)]) (st' := [.int 0]) (w' := (SH, S, T)) rfl ?_
      exact xj_E.ret rfl rfl rfl rfl (h _ rfl)
    · have hd := hd.2 q
      have h := fun v e => h v (Eq.trans e (if_neg q).symm)
      refine xj_E.adv 4 (pc' := 28) (ls' := [(0, .ref 1), (1, .int a), (2, .int b), (3, .int c)]) (st' := [.int a, .ref 6, .int b]) (w' := (SH, S, T)) rfl ?_
      refine xj_E.iald rfl rfl hd.1 ?_
      have hd := hd.2
      refine xj_E.adv 1 (pc' := (if xj_cmp .eq b (S 6 a.toNatClampNeg) = true then 66 else 32)) (ls' := [(0, .ref 1), (1, .int a), (2, .int b), (3, .int c)]) (st' := []) (w' := (SH, S, T)) rfl ?_
      refine xj_E.b_eq (fun q => ?_) (fun q => ?_)
      · have hd := hd.1 q
        have h := fun v e => h v (Eq.trans e (if_pos q).symm)
        refine xj_E.adv 1 (pc' := 67) (ls' := [(0, .ref 1), (1, .int a), (2, .int b), (3, .int c)]) (st' := [.int 0]) (w' := (SH, S, T)) rfl ?_
        exact xj_E.ret rfl rfl rfl rfl (h _ rfl)
      · have hd := hd.2 q
        have h := fun v e => h v (Eq.trans e (if_neg q).symm)
        refine xj_E.adv 3 (pc' := 37) (ls' := [(0, .ref 1), (1, .int a), (2, .int b), (3, .int c)]) (st' := [.int b, .ref 3]) (w' := (SH, S, T)) rfl ?_
        refine xj_E.iald rfl rfl hd.1 ?_
        have hd := hd.2
        refine xj_E.adv 5 (pc' := 47) (ls' := [(0, .ref 1), (1, .int a), (2, .int b), (3, .int c)]) (st' := [.int a, .ref 6, .ref 3, .int (S 3 b.toNatClampNeg)]) (w' := (SH, S, T)) rfl ?_
        refine xj_E.iald rfl rfl hd.1 ?_
        have hd := hd.2
        refine xj_E.iald rfl rfl hd.1 ?_
        have hd := hd.2
        refine xj_E.adv 1 (pc' := (if xj_cmp .ne (S 3 b.toNatClampNeg) (S 3 (S 6 a.toNatClampNeg).toNatClampNeg) = true then 66 else 52)) (ls' := [(0, .ref 1), (1, .int a), (2, .int b), (3, .int c)]) (st' := []) (w' := (SH, S, T)) rfl ?_
        refine xj_E.b_ne (fun q => ?_) (fun q => ?_)
        · have hd := hd.1 q
          have h := fun v e => h v (Eq.trans e (if_pos q).symm)
          refine xj_E.adv 1 (pc' := 67) (ls' := [(0, .ref 1), (1, .int a), (2, .int b), (3, .int c)]) (st' := [.int 0]) (w' := (SH, S, T)) rfl ?_
          exact xj_E.ret rfl rfl rfl rfl (h _ rfl)
        · have hd := hd.2 q
          have h := fun v e => h v (Eq.trans e (if_neg q).symm)
          refine xj_E.adv 2 (pc' := (if xj_cmp .lt c 0 = true then 66 else 56)) (ls' := [(0, .ref 1), (1, .int a), (2, .int b), (3, .int c)]) (st' := []) (w' := (SH, S, T)) rfl ?_
          refine xj_E.b_lt (fun q => ?_) (fun q => ?_)
          · have hd := hd.1 q
            have h := fun v e => h v (Eq.trans e (if_pos q).symm)
            refine xj_E.adv 1 (pc' := 67) (ls' := [(0, .ref 1), (1, .int a), (2, .int b), (3, .int c)]) (st' := [.int 0]) (w' := (SH, S, T)) rfl ?_
            exact xj_E.ret rfl rfl rfl rfl (h _ rfl)
          · have hd := hd.2 q
            have h := fun v e => h v (Eq.trans e (if_neg q).symm)
            refine xj_E.adv 3 (pc' := (if xj_cmp .gt c 9 = true then 66 else 62)) (ls' := [(0, .ref 1), (1, .int a), (2, .int b), (3, .int c)]) (st' := []) (w' := (SH, S, T)) rfl ?_
            refine xj_E.b_gt (fun q => ?_) (fun q => ?_)
            · have hd := hd.1 q
              have h := fun v e => h v (Eq.trans e (if_pos q).symm)
              refine xj_E.adv 1 (pc' := 67) (ls' := [(0, .ref 1), (1, .int a), (2, .int b), (3, .int c)]) (st' := [.int 0]) (w' := (SH, S, T)) rfl ?_
              exact xj_E.ret rfl rfl rfl rfl (h _ rfl)
            · have hd := hd.2 q
              have h := fun v e => h v (Eq.trans e (if_neg q).symm)
              refine xj_E.adv 2 (pc' := 67) (ls' := [(0, .ref 1), (1, .int a), (2, .int b), (3, .int c)]) (st' := [.int 1]) (w' := (SH, S, T)) rfl ?_
              exact xj_E.ret rfl rfl rfl rfl (h _ rfl)
  · have hd := hd.2 q
    have h := fun v e => h v (Eq.trans e (if_neg q).symm)
    refine xj_E.adv 3 (pc' := 10) (ls' := [(0, .ref 1), (1, .int a), (2, .int b), (3, .int c)]) (st' := [.int (b - 100)]) (w' := (SH, S, T)) rfl ?_
    refine xj_E.calli (d := d) (S := SH) rfl rfl rfl rfl rfl (ok_c_isVariable hd.1 ?_)
    intro v e
    subst e
    refine ⟨_, S, T, rfl, rfl, rfl, rfl, ?_⟩
    have hd := hd.2
    exact xj_E.ret rfl rfl rfl (if_pos hd) (h _ rfl)
set_option maxRecDepth 100000 in
theorem okl_p_isSatisfied {L d : Nat} {xs : Nat → Int32} {S : Nat → Nat → Int32} {T : Nat → Nat → Int64} {P : (Option Value ⊕ Nat) → xj_W → Nat → Nat → Prop} (n : Nat) : (∀ u1 u2 u4, dl0_p_isSatisfied n S u1 u2 u4 → (∀ v, v = rl0_p_isSatisfied n S u1 u2 u4 → P (.inl (some (.int v))) (SH, S, T) 0 0) → xj_E (xX L xs) (d + 1) 25 3 [(0, .ref 1), (1, .int u1), (2, .int u2), (3, .ref 20), (4, .int u4)] [] (SH, S, T) P) := by
  induction n with
  | zero =>
    exact fun _ _ _ hd _ => hd.elim
  | succ n ih =>
    intro u1 u2 u4 hd h
    refine xj_E.adv 4 (pc' := 10) (ls' := [(0, .ref 1), (1, .int u1), (2, .int u2), (3, .ref 20), (4, .int u4)]) (st' := [.int u1, .ref 8, .int u4]) (w' := (SH, S, T)) rfl ?_
    refine xj_E.iald rfl rfl hd.1 ?_
    have hd := hd.2
    refine xj_E.adv 1 (pc' := (if xj_cmp .ge u4 (S 8 u1.toNatClampNeg) = true then 33 else 14)) (ls' := [(0, .ref 1), (1, .int u1), (2, .int u2), (3, .ref 20), (4, .int u4)]) (st' := []) (w' := (SH, S, T)) rfl ?_
    refine xj_E.b_ge (fun q => ?_) (fun q => ?_)
    · have hd := hd.1 q
      have h := fun v e => h v (Eq.trans e (if_pos q).symm)
      refine xj_E.adv 3 (pc' := 36) (ls' := [(0, .ref 1), (1, .int u1), (2, .int u2), (3, .ref 20), (4, .int u4)]) (st' := [.ref 20, .int u1, .ref 1]) (w' := (SH, S, T)) rfl ?_
      refine xj_E.calli (d := d) (S := SH) rfl rfl rfl rfl rfl (ok_p_ifPartHolds hd.1 ?_)
      intro v e
      subst e
      refine ⟨_, S, T, rfl, rfl, rfl, rfl, ?_⟩
      have hd := hd.2
      exact xj_E.ret rfl rfl rfl (if_pos hd) (h _ rfl)
    · have hd := hd.2 q
      have h := fun v e => h v (Eq.trans e (if_neg q).symm)
      refine xj_E.adv 3 (pc' := 18) (ls' := [(0, .ref 1), (1, .int u1), (2, .int u2), (3, .ref 20), (4, .int u4)]) (st' := [.int u4, .int u1, .int u2]) (w' := (SH, S, T)) rfl ?_
      refine xj_E.calli (d := d) (S := SH) rfl rfl rfl rfl rfl (ok_p_partBit hd.1 ?_)
      intro v e
      subst e
      refine ⟨_, S, T, rfl, rfl, rfl, rfl, ?_⟩
      have hd := hd.2
      refine xj_E.adv 2 (pc' := (if xj_cmp .ne (u2 &&& (r_p_partBit S u1 u4)) 0 = true then 27 else 25)) (ls' := [(0, .ref 1), (1, .int u1), (2, .int u2), (3, .ref 20), (4, .int u4)]) (st' := []) (w' := (SH, S, T)) rfl ?_
      refine xj_E.b_ne (fun q => ?_) (fun q => ?_)
      · have hd := hd.1 q
        have h := fun v e => h v (Eq.trans e (if_pos q).symm)
        refine xj_E.adv 2 (pc' := 3) (ls' := [(4, .int (u4 + 1)), (0, .ref 1), (1, .int u1), (2, .int u2), (3, .ref 20)]) (st' := []) (w' := (SH, S, T)) rfl ?_
        refine xj_E.loc [0, 1, 2, 3, 4] xhth rfl (show xj_E (xX L xs) (d + 1) 25 3 [(0, .ref 1), (1, .int u1), (2, .int u2), (3, .ref 20), (4, .int (u4 + 1))] [] (SH, S, T) P from ?_)
        exact (ih) _ _ _ hd h
      · have hd := hd.2 q
        have h := fun v e => h v (Eq.trans e (if_neg q).symm)
        refine xj_E.adv 1 (pc' := 26) (ls' := [(0, .ref 1), (1, .int u1), (2, .int u2), (3, .ref 20), (4, .int u4)]) (st' := [.int 0]) (w' := (SH, S, T)) rfl ?_
        exact xj_E.ret rfl rfl rfl rfl (h _ rfl)
set_option maxRecDepth 100000 in
theorem ok_p_isSatisfied {L d : Nat} {xs : Nat → Int32} {S : Nat → Nat → Int32} {T : Nat → Nat → Int64} {P : (Option Value ⊕ Nat) → xj_W → Nat → Nat → Prop} {a b : Int32} (hd : d_p_isSatisfied S a b) (h : ∀ v, v = r_p_isSatisfied S a b → P (.inl (some (.int v))) (SH, S, T) 0 0) : xj_E (xX L xs) (d + 1) 25 0 [(0, .ref 1), (1, .int a), (2, .int b), (3, .ref 20)] [] (SH, S, T) P := by
  unfold d_p_isSatisfied at hd
  unfold r_p_isSatisfied at h
  refine xj_E.adv 2 (pc' := 3) (ls' := [(4, .int 0), (0, .ref 1), (1, .int a), (2, .int b), (3, .ref 20)]) (st' := []) (w' := (SH, S, T)) rfl ?_
  refine xj_E.loc [0, 1, 2, 3, 4] xhth rfl (show xj_E (xX L xs) (d + 1) 25 3 [(0, .ref 1), (1, .int a), (2, .int b), (3, .ref 20), (4, .int 0)] [] (SH, S, T) P from ?_)
  exact (okl_p_isSatisfied 200) _ _ _ hd h
set_option maxRecDepth 100000 in
theorem ok_c_value {L d : Nat} {xs : Nat → Int32} {S : Nat → Nat → Int32} {T : Nat → Nat → Int64} {P : (Option Value ⊕ Nat) → xj_W → Nat → Nat → Prop} {a : Int32} (hd : d_c_value S a) (h : ∀ v, v = r_c_value S a → P (.inl (some (.int v))) (SH, S, T) 0 0) : xj_E (xX L xs) (d + 1) 35 0 [(0, .ref 0), (1, .int a)] [] (SH, S, T) P := by
  unfold d_c_value at hd
  unfold r_c_value at h
  refine xj_E.adv 1 (pc' := 1) (ls' := [(0, .ref 0), (1, .int a)]) (st' := [.int a]) (w' := (SH, S, T)) rfl ?_
  refine xj_E.calli (d := d) (S := SH) rfl rfl rfl rfl rfl (ok_c_isVariable hd.1 ?_)
  intro v e
  subst e
  refine ⟨_, S, T, rfl, rfl, rfl, rfl, ?_⟩
  have hd := hd.2
  refine xj_E.adv 1 (pc' := (if xj_cmp .eq (r_c_isVariable S a) 0 = true then 19 else 7)) (ls' := [(0, .ref 0), (1, .int a)]) (st' := []) (w' := (SH, S, T)) rfl ?_
  refine xj_E.b_eq (fun q => ?_) (fun q => ?_)
  · have hd := hd.1 q
    have h := fun v e => h v (Eq.trans e (if_pos q).symm)
    refine xj_E.adv 1 (pc' := 20) (ls' := [(0, .ref 0), (1, .int a)]) (st' := [.int 0]) (w' := (SH, S, T)) rfl ?_
    exact xj_E.ret rfl rfl rfl rfl (h _ rfl)
  · have hd := hd.2 q
    have h := fun v e => h v (Eq.trans e (if_neg q).symm)
    refine xj_E.adv 4 (pc' := 15) (ls' := [(0, .ref 0), (1, .int a)]) (st' := [.int a, .ref 20]) (w' := (SH, S, T)) rfl ?_
    refine xj_E.iald rfl rfl hd.1 ?_
    have hd := hd.2
    refine xj_E.adv 1 (pc' := 20) (ls' := [(0, .ref 0), (1, .int a)]) (st' := [.int (S 20 a.toNatClampNeg)]) (w' := (SH, S, T)) rfl ?_
    exact xj_E.ret rfl rfl rfl rfl (h _ rfl)
set_option maxRecDepth 100000 in
theorem ok_c_stateAndKindFit {L d : Nat} {xs : Nat → Int32} {S : Nat → Nat → Int32} {T : Nat → Nat → Int64} {P : (Option Value ⊕ Nat) → xj_W → Nat → Nat → Prop} {a b : Int32} (hd : d_c_stateAndKindFit S a b) (h : ∀ v, v = r_c_stateAndKindFit S a b → P (.inl (some (.int v))) (SH, S, T) 0 0) : xj_E (xX L xs) (d + 2) 45 0 [(0, .ref 0), (1, .int a), (2, .int b)] [] (SH, S, T) P := by
  unfold d_c_stateAndKindFit at hd
  unfold r_c_stateAndKindFit at h
  refine xj_E.adv 4 (pc' := 8) (ls' := [(0, .ref 0), (1, .int a), (2, .int b)]) (st' := [.int a, .ref 17]) (w' := (SH, S, T)) rfl ?_
  refine xj_E.iald rfl rfl hd.1 ?_
  have hd := hd.2
  refine xj_E.adv 8 (pc' := 25) (ls' := [(3, .int (S 17 a.toNatClampNeg)), (0, .ref 0), (1, .int a), (2, .int b)]) (st' := [.int a, .ref 15, .ref 2]) (w' := (SH, S, T)) rfl ?_
  refine xj_E.iald rfl rfl hd.1 ?_
  have hd := hd.2
  refine xj_E.iald rfl rfl hd.1 ?_
  have hd := hd.2
  refine xj_E.adv 2 (pc' := 30) (ls' := [(4, .int (S 2 (S 15 a.toNatClampNeg).toNatClampNeg)), (3, .int (S 17 a.toNatClampNeg)), (0, .ref 0), (1, .int a), (2, .int b)]) (st' := [.int b]) (w' := (SH, S, T)) rfl ?_
  by_cases q2 : b = 2
  · have hd := hd.1 q2
    have h := fun v e => h v (Eq.trans e (if_pos q2).symm)
    refine xj_E.swk q2 ?_
    refine xj_E.adv 1 (pc' := 76) (ls' := [(4, .int (S 2 (S 15 a.toNatClampNeg).toNatClampNeg)), (3, .int (S 17 a.toNatClampNeg)), (0, .ref 0), (1, .int a), (2, .int b)]) (st' := []) (w' := (SH, S, T)) rfl ?_
    refine xj_E.adv 3 (pc' := (if xj_cmp .ne (S 17 a.toNatClampNeg) 1 = true then 85 else 81)) (ls' := [(4, .int (S 2 (S 15 a.toNatClampNeg).toNatClampNeg)), (3, .int (S 17 a.toNatClampNeg)), (0, .ref 0), (1, .int a), (2, .int b)]) (st' := []) (w' := (SH, S, T)) rfl ?_
    refine xj_E.b_ne (fun q => ?_) (fun q => ?_)
    · have hd := hd.1 q
      have h := fun v e => h v (Eq.trans e (if_pos q).symm)
      refine xj_E.adv 1 (pc' := 86) (ls' := [(4, .int (S 2 (S 15 a.toNatClampNeg).toNatClampNeg)), (3, .int (S 17 a.toNatClampNeg)), (0, .ref 0), (1, .int a), (2, .int b)]) (st' := [.int 0]) (w' := (SH, S, T)) rfl ?_
      exact xj_E.ret rfl rfl rfl rfl (h _ rfl)
    · have hd := hd.2 q
      have h := fun v e => h v (Eq.trans e (if_neg q).symm)
      refine xj_E.adv 2 (pc' := 86) (ls' := [(4, .int (S 2 (S 15 a.toNatClampNeg).toNatClampNeg)), (3, .int (S 17 a.toNatClampNeg)), (0, .ref 0), (1, .int a), (2, .int b)]) (st' := [.int 1]) (w' := (SH, S, T)) rfl ?_
      exact xj_E.ret rfl rfl rfl rfl (h _ rfl)
  · have hd := hd.2 q2
    have h := fun v e => h v (Eq.trans e (if_neg q2).symm)
    by_cases q3 : b = 3
    · have hd := hd.1 q3
      have h := fun v e => h v (Eq.trans e (if_pos q3).symm)
      refine xj_E.swk q3 ?_
      refine xj_E.adv 1 (pc' := 87) (ls' := [(4, .int (S 2 (S 15 a.toNatClampNeg).toNatClampNeg)), (3, .int (S 17 a.toNatClampNeg)), (0, .ref 0), (1, .int a), (2, .int b)]) (st' := []) (w' := (SH, S, T)) rfl ?_
      refine xj_E.adv 2 (pc' := (if xj_cmp .ne (S 17 a.toNatClampNeg) 0 = true then 101 else 91)) (ls' := [(4, .int (S 2 (S 15 a.toNatClampNeg).toNatClampNeg)), (3, .int (S 17 a.toNatClampNeg)), (0, .ref 0), (1, .int a), (2, .int b)]) (st' := []) (w' := (SH, S, T)) rfl ?_
      refine xj_E.b_ne (fun q => ?_) (fun q => ?_)
      · have hd := hd.1 q
        have h := fun v e => h v (Eq.trans e (if_pos q).symm)
        refine xj_E.adv 1 (pc' := 102) (ls' := [(4, .int (S 2 (S 15 a.toNatClampNeg).toNatClampNeg)), (3, .int (S 17 a.toNatClampNeg)), (0, .ref 0), (1, .int a), (2, .int b)]) (st' := [.int 0]) (w' := (SH, S, T)) rfl ?_
        exact xj_E.ret rfl rfl rfl rfl (h _ rfl)
      · have hd := hd.2 q
        have h := fun v e => h v (Eq.trans e (if_neg q).symm)
        refine xj_E.adv 3 (pc' := (if xj_cmp .ne (S 2 (S 15 a.toNatClampNeg).toNatClampNeg) 3 = true then 101 else 97)) (ls' := [(4, .int (S 2 (S 15 a.toNatClampNeg).toNatClampNeg)), (3, .int (S 17 a.toNatClampNeg)), (0, .ref 0), (1, .int a), (2, .int b)]) (st' := []) (w' := (SH, S, T)) rfl ?_
        refine xj_E.b_ne (fun q => ?_) (fun q => ?_)
        · have hd := hd.1 q
          have h := fun v e => h v (Eq.trans e (if_pos q).symm)
          refine xj_E.adv 1 (pc' := 102) (ls' := [(4, .int (S 2 (S 15 a.toNatClampNeg).toNatClampNeg)), (3, .int (S 17 a.toNatClampNeg)), (0, .ref 0), (1, .int a), (2, .int b)]) (st' := [.int 0]) (w' := (SH, S, T)) rfl ?_
          exact xj_E.ret rfl rfl rfl rfl (h _ rfl)
        · have hd := hd.2 q
          have h := fun v e => h v (Eq.trans e (if_neg q).symm)
          refine xj_E.adv 2 (pc' := 102) (ls' := [(4, .int (S 2 (S 15 a.toNatClampNeg).toNatClampNeg)), (3, .int (S 17 a.toNatClampNeg)), (0, .ref 0), (1, .int a), (2, .int b)]) (st' := [.int 1]) (w' := (SH, S, T)) rfl ?_
          exact xj_E.ret rfl rfl rfl rfl (h _ rfl)
    · have hd := hd.2 q3
      have h := fun v e => h v (Eq.trans e (if_neg q3).symm)
      by_cases q4 : b = 4
      · have hd := hd.1 q4
        have h := fun v e => h v (Eq.trans e (if_pos q4).symm)
        refine xj_E.swk q4 ?_
        refine xj_E.adv 1 (pc' := 103) (ls' := [(4, .int (S 2 (S 15 a.toNatClampNeg).toNatClampNeg)), (3, .int (S 17 a.toNatClampNeg)), (0, .ref 0), (1, .int a), (2, .int b)]) (st' := []) (w' := (SH, S, T)) rfl ?_
        refine xj_E.adv 3 (pc' := (if xj_cmp .ne (S 17 a.toNatClampNeg) 2 = true then 125 else 108)) (ls' := [(4, .int (S 2 (S 15 a.toNatClampNeg).toNatClampNeg)), (3, .int (S 17 a.toNatClampNeg)), (0, .ref 0), (1, .int a), (2, .int b)]) (st' := []) (w' := (SH, S, T)) rfl ?_
        refine xj_E.b_ne (fun q => ?_) (fun q => ?_)
        · have hd := hd.1 q
          have h := fun v e => h v (Eq.trans e (if_pos q).symm)
          refine xj_E.adv 1 (pc' := 126) (ls' := [(4, .int (S 2 (S 15 a.toNatClampNeg).toNatClampNeg)), (3, .int (S 17 a.toNatClampNeg)), (0, .ref 0), (1, .int a), (2, .int b)]) (st' := [.int 0]) (w' := (SH, S, T)) rfl ?_
          exact xj_E.ret rfl rfl rfl rfl (h _ rfl)
        · have hd := hd.2 q
          have h := fun v e => h v (Eq.trans e (if_neg q).symm)
          refine xj_E.adv 2 (pc' := (if xj_cmp .ne (S 2 (S 15 a.toNatClampNeg).toNatClampNeg) 0 = true then 121 else 113)) (ls' := [(4, .int (S 2 (S 15 a.toNatClampNeg).toNatClampNeg)), (3, .int (S 17 a.toNatClampNeg)), (0, .ref 0), (1, .int a), (2, .int b)]) (st' := []) (w' := (SH, S, T)) rfl ?_
          refine xj_E.b_ne (fun q => ?_) (fun q => ?_)
          · have hd := hd.1 q
            have h := fun v e => h v (Eq.trans e (if_pos q).symm)
            refine xj_E.adv 2 (pc' := 126) (ls' := [(4, .int (S 2 (S 15 a.toNatClampNeg).toNatClampNeg)), (3, .int (S 17 a.toNatClampNeg)), (0, .ref 0), (1, .int a), (2, .int b)]) (st' := [.int 1]) (w' := (SH, S, T)) rfl ?_
            exact xj_E.ret rfl rfl rfl rfl (h _ rfl)
          · have hd := hd.2 q
            have h := fun v e => h v (Eq.trans e (if_neg q).symm)
            refine xj_E.adv 2 (pc' := 115) (ls' := [(4, .int (S 2 (S 15 a.toNatClampNeg).toNatClampNeg)), (3, .int (S 17 a.toNatClampNeg)), (0, .ref 0), (1, .int a), (2, .int b)]) (st' := [.int a, .ref 0]) (w' := (SH, S, T)) rfl ?_
            refine xj_E.calli (d := d + 1) (S := SH) rfl rfl rfl rfl rfl (ok_c_isSettled hd.1 ?_)
            intro v e
            subst e
            refine ⟨_, S, T, rfl, rfl, rfl, rfl, ?_⟩
            have hd := hd.2
            refine xj_E.adv 1 (pc' := (if xj_cmp .eq (r_c_isSettled S a) 0 = true then 125 else 121)) (ls' := [(4, .int (S 2 (S 15 a.toNatClampNeg).toNatClampNeg)), (3, .int (S 17 a.toNatClampNeg)), (0, .ref 0), (1, .int a), (2, .int b)]) (st' := []) (w' := (SH, S, T)) rfl ?_
            refine xj_E.b_eq (fun q => ?_) (fun q => ?_)
            · have hd := hd.1 q
              have h := fun v e => h v (Eq.trans e (if_pos q).symm)
              refine xj_E.adv 1 (pc' := 126) (ls' := [(4, .int (S 2 (S 15 a.toNatClampNeg).toNatClampNeg)), (3, .int (S 17 a.toNatClampNeg)), (0, .ref 0), (1, .int a), (2, .int b)]) (st' := [.int 0]) (w' := (SH, S, T)) rfl ?_
              exact xj_E.ret rfl rfl rfl rfl (h _ rfl)
            · have hd := hd.2 q
              have h := fun v e => h v (Eq.trans e (if_neg q).symm)
              refine xj_E.adv 2 (pc' := 126) (ls' := [(4, .int (S 2 (S 15 a.toNatClampNeg).toNatClampNeg)), (3, .int (S 17 a.toNatClampNeg)), (0, .ref 0), (1, .int a), (2, .int b)]) (st' := [.int 1]) (w' := (SH, S, T)) rfl ?_
              exact xj_E.ret rfl rfl rfl rfl (h _ rfl)
      · have hd := hd.2 q4
        have h := fun v e => h v (Eq.trans e (if_neg q4).symm)
        by_cases q5 : b = 5
        · have hd := hd.1 q5
          have h := fun v e => h v (Eq.trans e (if_pos q5).symm)
          refine xj_E.swk q5 ?_
          refine xj_E.adv 1 (pc' := 127) (ls' := [(4, .int (S 2 (S 15 a.toNatClampNeg).toNatClampNeg)), (3, .int (S 17 a.toNatClampNeg)), (0, .ref 0), (1, .int a), (2, .int b)]) (st' := []) (w' := (SH, S, T)) rfl ?_
          refine xj_E.adv 3 (pc' := (if xj_cmp .ne (S 17 a.toNatClampNeg) 2 = true then 136 else 132)) (ls' := [(4, .int (S 2 (S 15 a.toNatClampNeg).toNatClampNeg)), (3, .int (S 17 a.toNatClampNeg)), (0, .ref 0), (1, .int a), (2, .int b)]) (st' := []) (w' := (SH, S, T)) rfl ?_
          refine xj_E.b_ne (fun q => ?_) (fun q => ?_)
          · have hd := hd.1 q
            have h := fun v e => h v (Eq.trans e (if_pos q).symm)
            refine xj_E.adv 1 (pc' := 137) (ls' := [(4, .int (S 2 (S 15 a.toNatClampNeg).toNatClampNeg)), (3, .int (S 17 a.toNatClampNeg)), (0, .ref 0), (1, .int a), (2, .int b)]) (st' := [.int 0]) (w' := (SH, S, T)) rfl ?_
            exact xj_E.ret rfl rfl rfl rfl (h _ rfl)
          · have hd := hd.2 q
            have h := fun v e => h v (Eq.trans e (if_neg q).symm)
            refine xj_E.adv 2 (pc' := 137) (ls' := [(4, .int (S 2 (S 15 a.toNatClampNeg).toNatClampNeg)), (3, .int (S 17 a.toNatClampNeg)), (0, .ref 0), (1, .int a), (2, .int b)]) (st' := [.int 1]) (w' := (SH, S, T)) rfl ?_
            exact xj_E.ret rfl rfl rfl rfl (h _ rfl)
        · have hd := hd.2 q5
          have h := fun v e => h v (Eq.trans e (if_neg q5).symm)
          by_cases q6 : b = 6
          · have hd := hd.1 q6
            have h := fun v e => h v (Eq.trans e (if_pos q6).symm)
            refine xj_E.swk q6 ?_
            refine xj_E.adv 1 (pc' := 138) (ls' := [(4, .int (S 2 (S 15 a.toNatClampNeg).toNatClampNeg)), (3, .int (S 17 a.toNatClampNeg)), (0, .ref 0), (1, .int a), (2, .int b)]) (st' := []) (w' := (SH, S, T)) rfl ?_
            refine xj_E.adv 3 (pc' := (if xj_cmp .ne (S 17 a.toNatClampNeg) 3 = true then 147 else 143)) (ls' := [(4, .int (S 2 (S 15 a.toNatClampNeg).toNatClampNeg)), (3, .int (S 17 a.toNatClampNeg)), (0, .ref 0), (1, .int a), (2, .int b)]) (st' := []) (w' := (SH, S, T)) rfl ?_
            refine xj_E.b_ne (fun q => ?_) (fun q => ?_)
            · have hd := hd.1 q
              have h := fun v e => h v (Eq.trans e (if_pos q).symm)
              refine xj_E.adv 1 (pc' := 148) (ls' := [(4, .int (S 2 (S 15 a.toNatClampNeg).toNatClampNeg)), (3, .int (S 17 a.toNatClampNeg)), (0, .ref 0), (1, .int a), (2, .int b)]) (st' := [.int 0]) (w' := (SH, S, T)) rfl ?_
              exact xj_E.ret rfl rfl rfl rfl (h _ rfl)
            · have hd := hd.2 q
              have h := fun v e => h v (Eq.trans e (if_neg q).symm)
              refine xj_E.adv 2 (pc' := 148) (ls' := [(4, .int (S 2 (S 15 a.toNatClampNeg).toNatClampNeg)), (3, .int (S 17 a.toNatClampNeg)), (0, .ref 0), (1, .int a), (2, .int b)]) (st' := [.int 1]) (w' := (SH, S, T)) rfl ?_
              exact xj_E.ret rfl rfl rfl rfl (h _ rfl)
          · have hd := hd.2 q6
            have h := fun v e => h v (Eq.trans e (if_neg q6).symm)
            by_cases q7 : b = 7
            · have hd := hd.1 q7
              have h := fun v e => h v (Eq.trans e (if_pos q7).symm)
              refine xj_E.swk q7 ?_
              refine xj_E.adv 1 (pc' := 149) (ls' := [(4, .int (S 2 (S 15 a.toNatClampNeg).toNatClampNeg)), (3, .int (S 17 a.toNatClampNeg)), (0, .ref 0), (1, .int a), (2, .int b)]) (st' := []) (w' := (SH, S, T)) rfl ?_
              refine xj_E.adv 3 (pc' := (if xj_cmp .ne (S 17 a.toNatClampNeg) 2 = true then 164 else 154)) (ls' := [(4, .int (S 2 (S 15 a.toNatClampNeg).toNatClampNeg)), (3, .int (S 17 a.toNatClampNeg)), (0, .ref 0), (1, .int a), (2, .int b)]) (st' := []) (w' := (SH, S, T)) rfl ?_
              refine xj_E.b_ne (fun q => ?_) (fun q => ?_)
              · have hd := hd.1 q
                have h := fun v e => h v (Eq.trans e (if_pos q).symm)
                refine xj_E.adv 1 (pc' := 165) (ls' := [(4, .int (S 2 (S 15 a.toNatClampNeg).toNatClampNeg)), (3, .int (S 17 a.toNatClampNeg)), (0, .ref 0), (1, .int a), (2, .int b)]) (st' := [.int 0]) (w' := (SH, S, T)) rfl ?_
                exact xj_E.ret rfl rfl rfl rfl (h _ rfl)
              · have hd := hd.2 q
                have h := fun v e => h v (Eq.trans e (if_neg q).symm)
                refine xj_E.adv 3 (pc' := (if xj_cmp .ne (S 2 (S 15 a.toNatClampNeg).toNatClampNeg) 1 = true then 164 else 160)) (ls' := [(4, .int (S 2 (S 15 a.toNatClampNeg).toNatClampNeg)), (3, .int (S 17 a.toNatClampNeg)), (0, .ref 0), (1, .int a), (2, .int b)]) (st' := []) (w' := (SH, S, T)) rfl ?_
                refine xj_E.b_ne (fun q => ?_) (fun q => ?_)
                · have hd := hd.1 q
                  have h := fun v e => h v (Eq.trans e (if_pos q).symm)
                  refine xj_E.adv 1 (pc' := 165) (ls' := [(4, .int (S 2 (S 15 a.toNatClampNeg).toNatClampNeg)), (3, .int (S 17 a.toNatClampNeg)), (0, .ref 0), (1, .int a), (2, .int b)]) (st' := [.int 0]) (w' := (SH, S, T)) rfl ?_
                  exact xj_E.ret rfl rfl rfl rfl (h _ rfl)
                · have hd := hd.2 q
                  have h := fun v e => h v (Eq.trans e (if_neg q).symm)
                  refine xj_E.adv 2 (pc' := 165) (ls' := [(4, .int (S 2 (S 15 a.toNatClampNeg).toNatClampNeg)), (3, .int (S 17 a.toNatClampNeg)), (0, .ref 0), (1, .int a), (2, .int b)]) (st' := [.int 1]) (w' := (SH, S, T)) rfl ?_
                  exact xj_E.ret rfl rfl rfl rfl (h _ rfl)
            · have hd := hd.2 q7
              have h := fun v e => h v (Eq.trans e (if_neg q7).symm)
              by_cases q8 : b = 8
              · have hd := hd.1 q8
                have h := fun v e => h v (Eq.trans e (if_pos q8).symm)
                refine xj_E.swk q8 ?_
                refine xj_E.adv 1 (pc' := 166) (ls' := [(4, .int (S 2 (S 15 a.toNatClampNeg).toNatClampNeg)), (3, .int (S 17 a.toNatClampNeg)), (0, .ref 0), (1, .int a), (2, .int b)]) (st' := []) (w' := (SH, S, T)) rfl ?_
                refine xj_E.adv 3 (pc' := (if xj_cmp .ne (S 17 a.toNatClampNeg) 6 = true then 176 else 172)) (ls' := [(4, .int (S 2 (S 15 a.toNatClampNeg).toNatClampNeg)), (3, .int (S 17 a.toNatClampNeg)), (0, .ref 0), (1, .int a), (2, .int b)]) (st' := []) (w' := (SH, S, T)) rfl ?_
                refine xj_E.b_ne (fun q => ?_) (fun q => ?_)
                · have hd := hd.1 q
                  have h := fun v e => h v (Eq.trans e (if_pos q).symm)
                  refine xj_E.adv 1 (pc' := 177) (ls' := [(4, .int (S 2 (S 15 a.toNatClampNeg).toNatClampNeg)), (3, .int (S 17 a.toNatClampNeg)), (0, .ref 0), (1, .int a), (2, .int b)]) (st' := [.int 0]) (w' := (SH, S, T)) rfl ?_
                  exact xj_E.ret rfl rfl rfl rfl (h _ rfl)
                · have hd := hd.2 q
                  have h := fun v e => h v (Eq.trans e (if_neg q).symm)
                  refine xj_E.adv 2 (pc' := 177) (ls' := [(4, .int (S 2 (S 15 a.toNatClampNeg).toNatClampNeg)), (3, .int (S 17 a.toNatClampNeg)), (0, .ref 0), (1, .int a), (2, .int b)]) (st' := [.int 1]) (w' := (SH, S, T)) rfl ?_
                  exact xj_E.ret rfl rfl rfl rfl (h _ rfl)
              · have hd := hd.2 q8
                have h := fun v e => h v (Eq.trans e (if_neg q8).symm)
                by_cases q9 : b = 9
                · have hd := hd.1 q9
                  have h := fun v e => h v (Eq.trans e (if_pos q9).symm)
                  refine xj_E.swk q9 ?_
                  refine xj_E.adv 1 (pc' := 178) (ls' := [(4, .int (S 2 (S 15 a.toNatClampNeg).toNatClampNeg)), (3, .int (S 17 a.toNatClampNeg)), (0, .ref 0), (1, .int a), (2, .int b)]) (st' := []) (w' := (SH, S, T)) rfl ?_
                  refine xj_E.adv 3 (pc' := 183) (ls' := [(4, .int (S 2 (S 15 a.toNatClampNeg).toNatClampNeg)), (3, .int (S 17 a.toNatClampNeg)), (0, .ref 0), (1, .int a), (2, .int b)]) (st' := [.int a, .ref 14]) (w' := (SH, S, T)) rfl ?_
                  refine xj_E.calli (d := d + 1) (S := SH) rfl rfl rfl rfl rfl (ok_l_isFinal hd.1 ?_)
                  intro v e
                  subst e
                  refine ⟨_, S, T, rfl, rfl, rfl, rfl, ?_⟩
                  have hd := hd.2
                  refine xj_E.adv 1 (pc' := (if xj_cmp .ne (r_l_isFinal S a) 0 = true then 193 else 189)) (ls' := [(4, .int (S 2 (S 15 a.toNatClampNeg).toNatClampNeg)), (3, .int (S 17 a.toNatClampNeg)), (0, .ref 0), (1, .int a), (2, .int b)]) (st' := []) (w' := (SH, S, T)) rfl ?_
                  refine xj_E.b_ne (fun q => ?_) (fun q => ?_)
                  · have hd := hd.1 q
                    have h := fun v e => h v (Eq.trans e (if_pos q).symm)
                    refine xj_E.adv 1 (pc' := 194) (ls' := [(4, .int (S 2 (S 15 a.toNatClampNeg).toNatClampNeg)), (3, .int (S 17 a.toNatClampNeg)), (0, .ref 0), (1, .int a), (2, .int b)]) (st' := [.int 0]) (w' := (SH, S, T)) rfl ?_
                    exact xj_E.ret rfl rfl rfl rfl (h _ rfl)
                  · have hd := hd.2 q
                    have h := fun v e => h v (Eq.trans e (if_neg q).symm)
                    refine xj_E.adv 2 (pc' := 194) (ls' := [(4, .int (S 2 (S 15 a.toNatClampNeg).toNatClampNeg)), (3, .int (S 17 a.toNatClampNeg)), (0, .ref 0), (1, .int a), (2, .int b)]) (st' := [.int 1]) (w' := (SH, S, T)) rfl ?_
                    exact xj_E.ret rfl rfl rfl rfl (h _ rfl)
                · have hd := hd.2 q9
                  have h := fun v e => h v (Eq.trans e (if_neg q9).symm)
                  refine xj_E.swt rfl (xj_swd (fun z z1 z2 => ?_)) rfl ?_
                  · have hz : z = 2 ∨ z = 3 ∨ z = 4 ∨ z = 5 ∨ z = 6 ∨ z = 7 ∨ z = 8 ∨ z = 9 := by omega
                    rcases hz with rfl | rfl | rfl | rfl | rfl | rfl | rfl | rfl
                    · exact fun e => q2 (e.trans (by decide))
                    · exact fun e => q3 (e.trans (by decide))
                    · exact fun e => q4 (e.trans (by decide))
                    · exact fun e => q5 (e.trans (by decide))
                    · exact fun e => q6 (e.trans (by decide))
                    · exact fun e => q7 (e.trans (by decide))
                    · exact fun e => q8 (e.trans (by decide))
                    · exact fun e => q9 (e.trans (by decide))
                  refine xj_E.adv 1 (pc' := 196) (ls' := [(4, .int (S 2 (S 15 a.toNatClampNeg).toNatClampNeg)), (3, .int (S 17 a.toNatClampNeg)), (0, .ref 0), (1, .int a), (2, .int b)]) (st' := [.int 0]) (w' := (SH, S, T)) rfl ?_
                  exact xj_E.ret rfl rfl rfl rfl (h _ rfl)
set_option maxRecDepth 100000 in
theorem okl_c_hasSatisfied {L d : Nat} {xs : Nat → Int32} {S : Nat → Nat → Int32} {T : Nat → Nat → Int64} {P : (Option Value ⊕ Nat) → xj_W → Nat → Nat → Prop} (n : Nat) : (∀ u1 u2 u3, dl0_c_hasSatisfied n S u1 u2 u3 → (∀ v, v = rl0_c_hasSatisfied n S u1 u2 u3 → P (.inl (some (.int v))) (SH, S, T) 0 0) → xj_E (xX L xs) (d + 2) 53 2 [(0, .ref 0), (1, .int u1), (2, .int u2), (3, .int u3)] [] (SH, S, T) P) := by
  induction n with
  | zero =>
    exact fun _ _ _ hd _ => hd.elim
  | succ n ih =>
    intro u1 u2 u3 hd h
    refine xj_E.adv 5 (pc' := (if xj_cmp .ge u3 (S 1 5) = true then 82 else 13)) (ls' := [(0, .ref 0), (1, .int u1), (2, .int u2), (3, .int u3)]) (st' := []) (w' := (SH, S, T)) rfl ?_
    refine xj_E.b_ge (fun q => ?_) (fun q => ?_)
    · have hd := hd.1 q
      have h := fun v e => h v (Eq.trans e (if_pos q).symm)
      refine xj_E.adv 1 (pc' := 83) (ls' := [(0, .ref 0), (1, .int u1), (2, .int u2), (3, .int u3)]) (st' := [.int 0]) (w' := (SH, S, T)) rfl ?_
      exact xj_E.ret rfl rfl rfl rfl (h _ rfl)
    · have hd := hd.2 q
      have h := fun v e => h v (Eq.trans e (if_neg q).symm)
      refine xj_E.adv 4 (pc' := 21) (ls' := [(0, .ref 0), (1, .int u1), (2, .int u2), (3, .int u3)]) (st' := [.int u3, .ref 6]) (w' := (SH, S, T)) rfl ?_
      refine xj_E.iald rfl rfl hd.1 ?_
      have hd := hd.2
      refine xj_E.adv 4 (pc' := 30) (ls' := [(0, .ref 0), (1, .int u1), (2, .int u2), (3, .int u3)]) (st' := [.int u1, .ref 15, .int (S 6 u3.toNatClampNeg)]) (w' := (SH, S, T)) rfl ?_
      refine xj_E.iald rfl rfl hd.1 ?_
      have hd := hd.2
      refine xj_E.adv 1 (pc' := (if xj_cmp .ne (S 6 u3.toNatClampNeg) (S 15 u1.toNatClampNeg) = true then 76 else 34)) (ls' := [(0, .ref 0), (1, .int u1), (2, .int u2), (3, .int u3)]) (st' := []) (w' := (SH, S, T)) rfl ?_
      refine xj_E.b_ne (fun q => ?_) (fun q => ?_)
      · have hd := hd.1 q
        have h := fun v e => h v (Eq.trans e (if_pos q).symm)
        refine xj_E.adv 2 (pc' := 2) (ls' := [(3, .int (u3 + 1)), (0, .ref 0), (1, .int u1), (2, .int u2)]) (st' := []) (w' := (SH, S, T)) rfl ?_
        refine xj_E.loc [0, 1, 2, 3] xhth rfl (show xj_E (xX L xs) (d + 2) 53 2 [(0, .ref 0), (1, .int u1), (2, .int u2), (3, .int (u3 + 1))] [] (SH, S, T) P from ?_)
        exact (ih) _ _ _ hd h
      · have hd := hd.2 q
        have h := fun v e => h v (Eq.trans e (if_neg q).symm)
        refine xj_E.adv 4 (pc' := 42) (ls' := [(0, .ref 0), (1, .int u1), (2, .int u2), (3, .int u3)]) (st' := [.int u3, .ref 7]) (w' := (SH, S, T)) rfl ?_
        refine xj_E.bald rfl rfl hd.1 ?_
        have hd := hd.2
        refine xj_E.adv 2 (pc' := (if xj_cmp .ne (S 7 u3.toNatClampNeg) u2 = true then 76 else 47)) (ls' := [(0, .ref 0), (1, .int u1), (2, .int u2), (3, .int u3)]) (st' := []) (w' := (SH, S, T)) rfl ?_
        refine xj_E.b_ne (fun q => ?_) (fun q => ?_)
        · have hd := hd.1 q
          have h := fun v e => h v (Eq.trans e (if_pos q).symm)
          refine xj_E.adv 2 (pc' := 2) (ls' := [(3, .int (u3 + 1)), (0, .ref 0), (1, .int u1), (2, .int u2)]) (st' := []) (w' := (SH, S, T)) rfl ?_
          refine xj_E.loc [0, 1, 2, 3] xhth rfl (show xj_E (xX L xs) (d + 2) 53 2 [(0, .ref 0), (1, .int u1), (2, .int u2), (3, .int (u3 + 1))] [] (SH, S, T) P from ?_)
          exact (ih) _ _ _ hd h
        · have hd := hd.2 q
          have h := fun v e => h v (Eq.trans e (if_neg q).symm)
          refine xj_E.adv 7 (pc' := 60) (ls' := [(0, .ref 0), (1, .int u1), (2, .int u2), (3, .int u3)]) (st' := [.int u1, .ref 19, .int u3, .ref 1]) (w' := (SH, S, T)) rfl ?_
          refine xj_E.iald rfl rfl hd.1 ?_
          have hd := hd.2
          refine xj_E.adv 3 (pc' := 68) (ls' := [(0, .ref 0), (1, .int u1), (2, .int u2), (3, .int u3)]) (st' := [.ref 20, .int (S 19 u1.toNatClampNeg), .int u3, .ref 1]) (w' := (SH, S, T)) rfl ?_
          refine xj_E.calli (d := d + 1) (S := SH) rfl rfl rfl rfl rfl (ok_p_isSatisfied hd.1 ?_)
          intro v e
          subst e
          refine ⟨_, S, T, rfl, rfl, rfl, rfl, ?_⟩
          have hd := hd.2
          refine xj_E.adv 1 (pc' := (if xj_cmp .eq (r_p_isSatisfied S u3 (S 19 u1.toNatClampNeg)) 0 = true then 76 else 74)) (ls' := [(0, .ref 0), (1, .int u1), (2, .int u2), (3, .int u3)]) (st' := []) (w' := (SH, S, T)) rfl ?_
          refine xj_E.b_eq (fun q => ?_) (fun q => ?_)
          · have hd := hd.1 q
            have h := fun v e => h v (Eq.trans e (if_pos q).symm)
            refine xj_E.adv 2 (pc' := 2) (ls' := [(3, .int (u3 + 1)), (0, .ref 0), (1, .int u1), (2, .int u2)]) (st' := []) (w' := (SH, S, T)) rfl ?_
            refine xj_E.loc [0, 1, 2, 3] xhth rfl (show xj_E (xX L xs) (d + 2) 53 2 [(0, .ref 0), (1, .int u1), (2, .int u2), (3, .int (u3 + 1))] [] (SH, S, T) P from ?_)
            exact (ih) _ _ _ hd h
          · have hd := hd.2 q
            have h := fun v e => h v (Eq.trans e (if_neg q).symm)
            refine xj_E.adv 1 (pc' := 75) (ls' := [(0, .ref 0), (1, .int u1), (2, .int u2), (3, .int u3)]) (st' := [.int 1]) (w' := (SH, S, T)) rfl ?_
            exact xj_E.ret rfl rfl rfl rfl (h _ rfl)
set_option maxRecDepth 100000 in
theorem ok_c_hasSatisfied {L d : Nat} {xs : Nat → Int32} {S : Nat → Nat → Int32} {T : Nat → Nat → Int64} {P : (Option Value ⊕ Nat) → xj_W → Nat → Nat → Prop} {a b : Int32} (hd : d_c_hasSatisfied S a b) (h : ∀ v, v = r_c_hasSatisfied S a b → P (.inl (some (.int v))) (SH, S, T) 0 0) : xj_E (xX L xs) (d + 2) 53 0 [(0, .ref 0), (1, .int a), (2, .int b)] [] (SH, S, T) P := by
  unfold d_c_hasSatisfied at hd
  unfold r_c_hasSatisfied at h
  refine xj_E.adv 2 (pc' := 2) (ls' := [(3, .int 0), (0, .ref 0), (1, .int a), (2, .int b)]) (st' := []) (w' := (SH, S, T)) rfl ?_
  refine xj_E.loc [0, 1, 2, 3] xhth rfl (show xj_E (xX L xs) (d + 2) 53 2 [(0, .ref 0), (1, .int a), (2, .int b), (3, .int 0)] [] (SH, S, T) P from ?_)
  exact (okl_c_hasSatisfied 200) _ _ _ hd h
set_option maxRecDepth 100000 in
theorem ok_c_isDone {L d : Nat} {xs : Nat → Int32} {S : Nat → Nat → Int32} {T : Nat → Nat → Int64} {P : (Option Value ⊕ Nat) → xj_W → Nat → Nat → Prop} {a : Int32} (hd : d_c_isDone S a) (h : ∀ v, v = r_c_isDone S a → P (.inl (some (.int v))) (SH, S, T) 0 0) : xj_E (xX L xs) (d + 2) 55 0 [(0, .ref 0), (1, .int a)] [] (SH, S, T) P := by
  unfold d_c_isDone at hd
  unfold r_c_isDone at h
  refine xj_E.adv 2 (pc' := 2) (ls' := [(0, .ref 0), (1, .int a)]) (st' := [.int a, .ref 0]) (w' := (SH, S, T)) rfl ?_
  refine xj_E.calli (d := d + 1) (S := SH) rfl rfl rfl rfl rfl (ok_c_isSettled hd.1 ?_)
  intro v e
  subst e
  refine ⟨_, S, T, rfl, rfl, rfl, rfl, ?_⟩
  have hd := hd.2
  refine xj_E.adv 1 (pc' := (if xj_cmp .eq (r_c_isSettled S a) 0 = true then 41 else 8)) (ls' := [(0, .ref 0), (1, .int a)]) (st' := []) (w' := (SH, S, T)) rfl ?_
  refine xj_E.b_eq (fun q => ?_) (fun q => ?_)
  · have hd := hd.1 q
    have h := fun v e => h v (Eq.trans e (if_pos q).symm)
    refine xj_E.adv 1 (pc' := 42) (ls' := [(0, .ref 0), (1, .int a)]) (st' := [.int 0]) (w' := (SH, S, T)) rfl ?_
    exact xj_E.ret rfl rfl rfl rfl (h _ rfl)
  · have hd := hd.2 q
    have h := fun v e => h v (Eq.trans e (if_neg q).symm)
    refine xj_E.adv 6 (pc' := 20) (ls' := [(0, .ref 0), (1, .int a)]) (st' := [.int a, .ref 15, .ref 1]) (w' := (SH, S, T)) rfl ?_
    refine xj_E.iald rfl rfl hd.1 ?_
    have hd := hd.2
    refine xj_E.adv 1 (pc' := 23) (ls' := [(0, .ref 0), (1, .int a)]) (st' := [.int 8, .int (S 15 a.toNatClampNeg), .ref 1]) (w' := (SH, S, T)) rfl ?_
    refine xj_E.calli (d := d + 1) (S := SH) rfl rfl rfl rfl rfl (ok_p_hasFlag hd.1 ?_)
    intro v e
    subst e
    refine ⟨_, S, T, rfl, rfl, rfl, rfl, ?_⟩
    have hd := hd.2
    refine xj_E.adv 1 (pc' := (if xj_cmp .ne (r_p_hasFlag S (S 15 a.toNatClampNeg) 8) 0 = true then 37 else 29)) (ls' := [(0, .ref 0), (1, .int a)]) (st' := []) (w' := (SH, S, T)) rfl ?_
    refine xj_E.b_ne (fun q => ?_) (fun q => ?_)
    · have hd := hd.1 q
      have h := fun v e => h v (Eq.trans e (if_pos q).symm)
      refine xj_E.adv 2 (pc' := 42) (ls' := [(0, .ref 0), (1, .int a)]) (st' := [.int 1]) (w' := (SH, S, T)) rfl ?_
      exact xj_E.ret rfl rfl rfl rfl (h _ rfl)
    · have hd := hd.2 q
      have h := fun v e => h v (Eq.trans e (if_neg q).symm)
      refine xj_E.adv 2 (pc' := 31) (ls' := [(0, .ref 0), (1, .int a)]) (st' := [.int a, .ref 0]) (w' := (SH, S, T)) rfl ?_
      refine xj_E.calli (d := d + 1) (S := SH) rfl rfl rfl rfl rfl (ok_c_hasWaitingChild hd.1 ?_)
      intro v e
      subst e
      refine ⟨_, S, T, rfl, rfl, rfl, rfl, ?_⟩
      have hd := hd.2
      refine xj_E.adv 1 (pc' := (if xj_cmp .ne (r_c_hasWaitingChild S a) 0 = true then 41 else 37)) (ls' := [(0, .ref 0), (1, .int a)]) (st' := []) (w' := (SH, S, T)) rfl ?_
      refine xj_E.b_ne (fun q => ?_) (fun q => ?_)
      · have hd := hd.1 q
        have h := fun v e => h v (Eq.trans e (if_pos q).symm)
        refine xj_E.adv 1 (pc' := 42) (ls' := [(0, .ref 0), (1, .int a)]) (st' := [.int 0]) (w' := (SH, S, T)) rfl ?_
        exact xj_E.ret rfl rfl rfl rfl (h _ rfl)
      · have hd := hd.2 q
        have h := fun v e => h v (Eq.trans e (if_neg q).symm)
        refine xj_E.adv 2 (pc' := 42) (ls' := [(0, .ref 0), (1, .int a)]) (st' := [.int 1]) (w' := (SH, S, T)) rfl ?_
        exact xj_E.ret rfl rfl rfl rfl (h _ rfl)
set_option maxRecDepth 100000 in
theorem ok_c_mayBeMoved {L d : Nat} {xs : Nat → Int32} {S : Nat → Nat → Int32} {T : Nat → Nat → Int64} {P : (Option Value ⊕ Nat) → xj_W → Nat → Nat → Prop} {a b : Int32} (hd : d_c_mayBeMoved S a b) (h : ∀ v, v = r_c_mayBeMoved S a b → P (.inl (some (.int v))) (SH, S, T) 0 0) : xj_E (xX L xs) (d + 3) 44 0 [(0, .ref 0), (1, .int a), (2, .int b)] [] (SH, S, T) P := by
  unfold d_c_mayBeMoved at hd
  unfold r_c_mayBeMoved at h
  refine xj_E.adv 2 (pc' := 2) (ls' := [(0, .ref 0), (1, .int a), (2, .int b)]) (st' := [.int a, .ref 0]) (w' := (SH, S, T)) rfl ?_
  refine xj_E.calli (d := d + 2) (S := SH) rfl rfl rfl rfl rfl (ok_c_parentLets hd.1 ?_)
  intro v e
  subst e
  refine ⟨_, S, T, rfl, rfl, rfl, rfl, ?_⟩
  have hd := hd.2
  refine xj_E.adv 1 (pc' := (if xj_cmp .eq (r_c_parentLets S a) 0 = true then 21 else 8)) (ls' := [(0, .ref 0), (1, .int a), (2, .int b)]) (st' := []) (w' := (SH, S, T)) rfl ?_
  refine xj_E.b_eq (fun q => ?_) (fun q => ?_)
  · have hd := hd.1 q
    have h := fun v e => h v (Eq.trans e (if_pos q).symm)
    refine xj_E.adv 1 (pc' := 22) (ls' := [(0, .ref 0), (1, .int a), (2, .int b)]) (st' := [.int 0]) (w' := (SH, S, T)) rfl ?_
    exact xj_E.ret rfl rfl rfl rfl (h _ rfl)
  · have hd := hd.2 q
    have h := fun v e => h v (Eq.trans e (if_neg q).symm)
    refine xj_E.adv 3 (pc' := 11) (ls' := [(0, .ref 0), (1, .int a), (2, .int b)]) (st' := [.int b, .int a, .ref 0]) (w' := (SH, S, T)) rfl ?_
    refine xj_E.calli (d := d + 2) (S := SH) rfl rfl rfl rfl rfl (ok_c_stateAndKindFit hd.1 ?_)
    intro v e
    subst e
    refine ⟨_, S, T, rfl, rfl, rfl, rfl, ?_⟩
    have hd := hd.2
    refine xj_E.adv 1 (pc' := (if xj_cmp .eq (r_c_stateAndKindFit S a b) 0 = true then 21 else 17)) (ls' := [(0, .ref 0), (1, .int a), (2, .int b)]) (st' := []) (w' := (SH, S, T)) rfl ?_
    refine xj_E.b_eq (fun q => ?_) (fun q => ?_)
    · have hd := hd.1 q
      have h := fun v e => h v (Eq.trans e (if_pos q).symm)
      refine xj_E.adv 1 (pc' := 22) (ls' := [(0, .ref 0), (1, .int a), (2, .int b)]) (st' := [.int 0]) (w' := (SH, S, T)) rfl ?_
      exact xj_E.ret rfl rfl rfl rfl (h _ rfl)
    · have hd := hd.2 q
      have h := fun v e => h v (Eq.trans e (if_neg q).symm)
      refine xj_E.adv 2 (pc' := 22) (ls' := [(0, .ref 0), (1, .int a), (2, .int b)]) (st' := [.int 1]) (w' := (SH, S, T)) rfl ?_
      exact xj_E.ret rfl rfl rfl rfl (h _ rfl)
set_option maxRecDepth 100000 in
theorem okl_c_lowestToExit {L d : Nat} {xs : Nat → Int32} {S : Nat → Nat → Int32} {T : Nat → Nat → Int64} {P : (Option Value ⊕ Nat) → xj_W → Nat → Nat → Prop} (n : Nat) : (∀ u1, dl0_c_lowestToExit n S u1 → (∀ v, v = rl0_c_lowestToExit n S u1 → P (.inl (some (.int v))) (SH, S, T) 0 0) → xj_E (xX L xs) (d + 3) 49 2 [(0, .ref 0), (1, .int u1)] [] (SH, S, T) P) := by
  induction n with
  | zero =>
    exact fun _ hd _ => hd.elim
  | succ n ih =>
    intro u1 hd h
    refine xj_E.adv 5 (pc' := (if xj_cmp .ge u1 (S 14 1) = true then 49 else 13)) (ls' := [(0, .ref 0), (1, .int u1)]) (st' := []) (w' := (SH, S, T)) rfl ?_
    refine xj_E.b_ge (fun q => ?_) (fun q => ?_)
    · have hd := hd.1 q
      have h := fun v e => h v (Eq.trans e (if_pos q).symm)
      refine xj_E.adv 1 (pc' := 50) (ls' := [(0, .ref 0), (1, .int u1)]) (st' := [.int (-1)]) (w' := (SH, S, T)) rfl ?_
      exact xj_E.ret rfl rfl rfl rfl (h _ rfl)
    · have hd := hd.2 q
      have h := fun v e => h v (Eq.trans e (if_neg q).symm)
      refine xj_E.adv 3 (pc' := 18) (ls' := [(0, .ref 0), (1, .int u1)]) (st' := [.int u1, .ref 14]) (w' := (SH, S, T)) rfl ?_
      refine xj_E.calli (d := d + 2) (S := SH) rfl rfl rfl rfl rfl (ok_l_isFinal hd.1 ?_)
      intro v e
      subst e
      refine ⟨_, S, T, rfl, rfl, rfl, rfl, ?_⟩
      have hd := hd.2
      refine xj_E.adv 1 (pc' := (if xj_cmp .ne (r_l_isFinal S u1) 0 = true then 43 else 24)) (ls' := [(0, .ref 0), (1, .int u1)]) (st' := []) (w' := (SH, S, T)) rfl ?_
      refine xj_E.b_ne (fun q => ?_) (fun q => ?_)
      · have hd := hd.1 q
        have h := fun v e => h v (Eq.trans e (if_pos q).symm)
        refine xj_E.adv 2 (pc' := 2) (ls' := [(1, .int (u1 + 1)), (0, .ref 0)]) (st' := []) (w' := (SH, S, T)) rfl ?_
        refine xj_E.loc [0, 1] xhth rfl (show xj_E (xX L xs) (d + 3) 49 2 [(0, .ref 0), (1, .int (u1 + 1))] [] (SH, S, T) P from ?_)
        exact (ih) _ hd h
      · have hd := hd.2 q
        have h := fun v e => h v (Eq.trans e (if_neg q).symm)
        refine xj_E.adv 2 (pc' := 26) (ls' := [(0, .ref 0), (1, .int u1)]) (st' := [.int u1, .ref 0]) (w' := (SH, S, T)) rfl ?_
        refine xj_E.calli (d := d + 2) (S := SH) rfl rfl rfl rfl rfl (ok_c_parentLets hd.1 ?_)
        intro v e
        subst e
        refine ⟨_, S, T, rfl, rfl, rfl, rfl, ?_⟩
        have hd := hd.2
        refine xj_E.adv 1 (pc' := (if xj_cmp .eq (r_c_parentLets S u1) 0 = true then 43 else 32)) (ls' := [(0, .ref 0), (1, .int u1)]) (st' := []) (w' := (SH, S, T)) rfl ?_
        refine xj_E.b_eq (fun q => ?_) (fun q => ?_)
        · have hd := hd.1 q
          have h := fun v e => h v (Eq.trans e (if_pos q).symm)
          refine xj_E.adv 2 (pc' := 2) (ls' := [(1, .int (u1 + 1)), (0, .ref 0)]) (st' := []) (w' := (SH, S, T)) rfl ?_
          refine xj_E.loc [0, 1] xhth rfl (show xj_E (xX L xs) (d + 3) 49 2 [(0, .ref 0), (1, .int (u1 + 1))] [] (SH, S, T) P from ?_)
          exact (ih) _ hd h
        · have hd := hd.2 q
          have h := fun v e => h v (Eq.trans e (if_neg q).symm)
          refine xj_E.adv 3 (pc' := 35) (ls' := [(0, .ref 0), (1, .int u1)]) (st' := [.int 1, .int u1, .ref 0]) (w' := (SH, S, T)) rfl ?_
          refine xj_E.calli (d := d + 2) (S := SH) rfl rfl rfl rfl rfl (ok_c_hasSatisfied hd.1 ?_)
          intro v e
          subst e
          refine ⟨_, S, T, rfl, rfl, rfl, rfl, ?_⟩
          have hd := hd.2
          refine xj_E.adv 1 (pc' := (if xj_cmp .eq (r_c_hasSatisfied S u1 1) 0 = true then 43 else 41)) (ls' := [(0, .ref 0), (1, .int u1)]) (st' := []) (w' := (SH, S, T)) rfl ?_
          refine xj_E.b_eq (fun q => ?_) (fun q => ?_)
          · have hd := hd.1 q
            have h := fun v e => h v (Eq.trans e (if_pos q).symm)
            refine xj_E.adv 2 (pc' := 2) (ls' := [(1, .int (u1 + 1)), (0, .ref 0)]) (st' := []) (w' := (SH, S, T)) rfl ?_
            refine xj_E.loc [0, 1] xhth rfl (show xj_E (xX L xs) (d + 3) 49 2 [(0, .ref 0), (1, .int (u1 + 1))] [] (SH, S, T) P from ?_)
            exact (ih) _ hd h
          · have hd := hd.2 q
            have h := fun v e => h v (Eq.trans e (if_neg q).symm)
            refine xj_E.adv 1 (pc' := 42) (ls' := [(0, .ref 0), (1, .int u1)]) (st' := [.int u1]) (w' := (SH, S, T)) rfl ?_
            exact xj_E.ret rfl rfl rfl rfl (h _ rfl)
set_option maxRecDepth 100000 in
theorem ok_c_lowestToExit {L d : Nat} {xs : Nat → Int32} {S : Nat → Nat → Int32} {T : Nat → Nat → Int64} {P : (Option Value ⊕ Nat) → xj_W → Nat → Nat → Prop} (hd : d_c_lowestToExit S ) (h : ∀ v, v = r_c_lowestToExit S  → P (.inl (some (.int v))) (SH, S, T) 0 0) : xj_E (xX L xs) (d + 3) 49 0 [(0, .ref 0)] [] (SH, S, T) P := by
  unfold d_c_lowestToExit at hd
  unfold r_c_lowestToExit at h
  refine xj_E.adv 2 (pc' := 2) (ls' := [(1, .int 0), (0, .ref 0)]) (st' := []) (w' := (SH, S, T)) rfl ?_
  refine xj_E.loc [0, 1] xhth rfl (show xj_E (xX L xs) (d + 3) 49 2 [(0, .ref 0), (1, .int 0)] [] (SH, S, T) P from ?_)
  exact (okl_c_lowestToExit 200) _ hd h
set_option maxRecDepth 100000 in
theorem okl_c_lowestToEnter {L d : Nat} {xs : Nat → Int32} {S : Nat → Nat → Int32} {T : Nat → Nat → Int64} {P : (Option Value ⊕ Nat) → xj_W → Nat → Nat → Prop} (n : Nat) : (∀ u1, dl0_c_lowestToEnter n S u1 → (∀ v, v = rl0_c_lowestToEnter n S u1 → P (.inl (some (.int v))) (SH, S, T) 0 0) → xj_E (xX L xs) (d + 3) 50 2 [(0, .ref 0), (1, .int u1)] [] (SH, S, T) P) := by
  induction n with
  | zero =>
    exact fun _ hd _ => hd.elim
  | succ n ih =>
    intro u1 hd h
    refine xj_E.adv 5 (pc' := (if xj_cmp .ge u1 (S 14 1) = true then 84 else 13)) (ls' := [(0, .ref 0), (1, .int u1)]) (st' := []) (w' := (SH, S, T)) rfl ?_
    refine xj_E.b_ge (fun q => ?_) (fun q => ?_)
    · have hd := hd.1 q
      have h := fun v e => h v (Eq.trans e (if_pos q).symm)
      refine xj_E.adv 1 (pc' := 85) (ls' := [(0, .ref 0), (1, .int u1)]) (st' := [.int (-1)]) (w' := (SH, S, T)) rfl ?_
      exact xj_E.ret rfl rfl rfl rfl (h _ rfl)
    · have hd := hd.2 q
      have h := fun v e => h v (Eq.trans e (if_neg q).symm)
      refine xj_E.adv 4 (pc' := 21) (ls' := [(0, .ref 0), (1, .int u1)]) (st' := [.int u1, .ref 15]) (w' := (SH, S, T)) rfl ?_
      refine xj_E.iald rfl rfl hd.1 ?_
      have hd := hd.2
      refine xj_E.adv 5 (pc' := 31) (ls' := [(2, .int (S 15 u1.toNatClampNeg)), (0, .ref 0), (1, .int u1)]) (st' := [.int u1, .ref 17]) (w' := (SH, S, T)) rfl ?_
      refine xj_E.iald rfl rfl hd.1 ?_
      have hd := hd.2
      refine xj_E.adv 1 (pc' := (if xj_cmp .ne (S 17 u1.toNatClampNeg) 0 = true then 78 else 35)) (ls' := [(2, .int (S 15 u1.toNatClampNeg)), (0, .ref 0), (1, .int u1)]) (st' := []) (w' := (SH, S, T)) rfl ?_
      refine xj_E.b_ne (fun q => ?_) (fun q => ?_)
      · have hd := hd.1 q
        have h := fun v e => h v (Eq.trans e (if_pos q).symm)
        refine xj_E.adv 2 (pc' := 2) (ls' := [(1, .int (u1 + 1)), (2, .int (S 15 u1.toNatClampNeg)), (0, .ref 0)]) (st' := []) (w' := (SH, S, T)) rfl ?_
        refine xj_E.loc [0, 1] xhth rfl (show xj_E (xX L xs) (d + 3) 50 2 [(0, .ref 0), (1, .int (u1 + 1))] [] (SH, S, T) P from ?_)
        exact (ih) _ hd h
      · have hd := hd.2 q
        have h := fun v e => h v (Eq.trans e (if_neg q).symm)
        refine xj_E.adv 4 (pc' := 43) (ls' := [(2, .int (S 15 u1.toNatClampNeg)), (0, .ref 0), (1, .int u1)]) (st' := [.int (S 15 u1.toNatClampNeg), .ref 2]) (w' := (SH, S, T)) rfl ?_
        refine xj_E.iald rfl rfl hd.1 ?_
        have hd := hd.2
        refine xj_E.adv 2 (pc' := (if xj_cmp .eq (S 2 (S 15 u1.toNatClampNeg).toNatClampNeg) 3 = true then 78 else 48)) (ls' := [(2, .int (S 15 u1.toNatClampNeg)), (0, .ref 0), (1, .int u1)]) (st' := []) (w' := (SH, S, T)) rfl ?_
        refine xj_E.b_eq (fun q => ?_) (fun q => ?_)
        · have hd := hd.1 q
          have h := fun v e => h v (Eq.trans e (if_pos q).symm)
          refine xj_E.adv 2 (pc' := 2) (ls' := [(1, .int (u1 + 1)), (2, .int (S 15 u1.toNatClampNeg)), (0, .ref 0)]) (st' := []) (w' := (SH, S, T)) rfl ?_
          refine xj_E.loc [0, 1] xhth rfl (show xj_E (xX L xs) (d + 3) 50 2 [(0, .ref 0), (1, .int (u1 + 1))] [] (SH, S, T) P from ?_)
          exact (ih) _ hd h
        · have hd := hd.2 q
          have h := fun v e => h v (Eq.trans e (if_neg q).symm)
          refine xj_E.adv 2 (pc' := 50) (ls' := [(2, .int (S 15 u1.toNatClampNeg)), (0, .ref 0), (1, .int u1)]) (st' := [.int u1, .ref 0]) (w' := (SH, S, T)) rfl ?_
          refine xj_E.calli (d := d + 2) (S := SH) rfl rfl rfl rfl rfl (ok_c_parentLets hd.1 ?_)
          intro v e
          subst e
          refine ⟨_, S, T, rfl, rfl, rfl, rfl, ?_⟩
          have hd := hd.2
          refine xj_E.adv 1 (pc' := (if xj_cmp .eq (r_c_parentLets S u1) 0 = true then 78 else 56)) (ls' := [(2, .int (S 15 u1.toNatClampNeg)), (0, .ref 0), (1, .int u1)]) (st' := []) (w' := (SH, S, T)) rfl ?_
          refine xj_E.b_eq (fun q => ?_) (fun q => ?_)
          · have hd := hd.1 q
            have h := fun v e => h v (Eq.trans e (if_pos q).symm)
            refine xj_E.adv 2 (pc' := 2) (ls' := [(1, .int (u1 + 1)), (2, .int (S 15 u1.toNatClampNeg)), (0, .ref 0)]) (st' := []) (w' := (SH, S, T)) rfl ?_
            refine xj_E.loc [0, 1] xhth rfl (show xj_E (xX L xs) (d + 3) 50 2 [(0, .ref 0), (1, .int (u1 + 1))] [] (SH, S, T) P from ?_)
            exact (ih) _ hd h
          · have hd := hd.2 q
            have h := fun v e => h v (Eq.trans e (if_neg q).symm)
            refine xj_E.adv 3 (pc' := 61) (ls' := [(2, .int (S 15 u1.toNatClampNeg)), (0, .ref 0), (1, .int u1)]) (st' := [.int (S 15 u1.toNatClampNeg), .ref 1]) (w' := (SH, S, T)) rfl ?_
            refine xj_E.calli (d := d + 2) (S := SH) rfl rfl rfl rfl rfl (ok_p_hasEntry hd.1 ?_)
            intro v e
            subst e
            refine ⟨_, S, T, rfl, rfl, rfl, rfl, ?_⟩
            have hd := hd.2
            refine xj_E.adv 1 (pc' := (if xj_cmp .eq (r_p_hasEntry S (S 15 u1.toNatClampNeg)) 0 = true then 76 else 67)) (ls' := [(2, .int (S 15 u1.toNatClampNeg)), (0, .ref 0), (1, .int u1)]) (st' := []) (w' := (SH, S, T)) rfl ?_
            refine xj_E.b_eq (fun q => ?_) (fun q => ?_)
            · have hd := hd.1 q
              have h := fun v e => h v (Eq.trans e (if_pos q).symm)
              refine xj_E.adv 1 (pc' := 77) (ls' := [(2, .int (S 15 u1.toNatClampNeg)), (0, .ref 0), (1, .int u1)]) (st' := [.int u1]) (w' := (SH, S, T)) rfl ?_
              exact xj_E.ret rfl rfl rfl rfl (h _ rfl)
            · have hd := hd.2 q
              have h := fun v e => h v (Eq.trans e (if_neg q).symm)
              refine xj_E.adv 3 (pc' := 70) (ls' := [(2, .int (S 15 u1.toNatClampNeg)), (0, .ref 0), (1, .int u1)]) (st' := [.int 0, .int u1, .ref 0]) (w' := (SH, S, T)) rfl ?_
              refine xj_E.calli (d := d + 2) (S := SH) rfl rfl rfl rfl rfl (ok_c_hasSatisfied hd.1 ?_)
              intro v e
              subst e
              refine ⟨_, S, T, rfl, rfl, rfl, rfl, ?_⟩
              have hd := hd.2
              refine xj_E.adv 1 (pc' := (if xj_cmp .eq (r_c_hasSatisfied S u1 0) 0 = true then 78 else 76)) (ls' := [(2, .int (S 15 u1.toNatClampNeg)), (0, .ref 0), (1, .int u1)]) (st' := []) (w' := (SH, S, T)) rfl ?_
              refine xj_E.b_eq (fun q => ?_) (fun q => ?_)
              · have hd := hd.1 q
                have h := fun v e => h v (Eq.trans e (if_pos q).symm)
                refine xj_E.adv 2 (pc' := 2) (ls' := [(1, .int (u1 + 1)), (2, .int (S 15 u1.toNatClampNeg)), (0, .ref 0)]) (st' := []) (w' := (SH, S, T)) rfl ?_
                refine xj_E.loc [0, 1] xhth rfl (show xj_E (xX L xs) (d + 3) 50 2 [(0, .ref 0), (1, .int (u1 + 1))] [] (SH, S, T) P from ?_)
                exact (ih) _ hd h
              · have hd := hd.2 q
                have h := fun v e => h v (Eq.trans e (if_neg q).symm)
                refine xj_E.adv 1 (pc' := 77) (ls' := [(2, .int (S 15 u1.toNatClampNeg)), (0, .ref 0), (1, .int u1)]) (st' := [.int u1]) (w' := (SH, S, T)) rfl ?_
                exact xj_E.ret rfl rfl rfl rfl (h _ rfl)
set_option maxRecDepth 100000 in
theorem ok_c_lowestToEnter {L d : Nat} {xs : Nat → Int32} {S : Nat → Nat → Int32} {T : Nat → Nat → Int64} {P : (Option Value ⊕ Nat) → xj_W → Nat → Nat → Prop} (hd : d_c_lowestToEnter S ) (h : ∀ v, v = r_c_lowestToEnter S  → P (.inl (some (.int v))) (SH, S, T) 0 0) : xj_E (xX L xs) (d + 3) 50 0 [(0, .ref 0)] [] (SH, S, T) P := by
  unfold d_c_lowestToEnter at hd
  unfold r_c_lowestToEnter at h
  refine xj_E.adv 2 (pc' := 2) (ls' := [(1, .int 0), (0, .ref 0)]) (st' := []) (w' := (SH, S, T)) rfl ?_
  refine xj_E.loc [0, 1] xhth rfl (show xj_E (xX L xs) (d + 3) 50 2 [(0, .ref 0), (1, .int 0)] [] (SH, S, T) P from ?_)
  exact (okl_c_lowestToEnter 200) _ hd h
set_option maxRecDepth 100000 in
theorem okl_c_lowestToComplete {L d : Nat} {xs : Nat → Int32} {S : Nat → Nat → Int32} {T : Nat → Nat → Int64} {P : (Option Value ⊕ Nat) → xj_W → Nat → Nat → Prop} (n : Nat) : (∀ u1, dl0_c_lowestToComplete n S u1 → (∀ v, v = rl0_c_lowestToComplete n S u1 → P (.inl (some (.int v))) (SH, S, T) 0 0) → xj_E (xX L xs) (d + 3) 51 2 [(0, .ref 0), (1, .int u1)] [] (SH, S, T) P) := by
  induction n with
  | zero =>
    exact fun _ hd _ => hd.elim
  | succ n ih =>
    intro u1 hd h
    refine xj_E.adv 5 (pc' := (if xj_cmp .ge u1 (S 14 1) = true then 70 else 13)) (ls' := [(0, .ref 0), (1, .int u1)]) (st' := []) (w' := (SH, S, T)) rfl ?_
    refine xj_E.b_ge (fun q => ?_) (fun q => ?_)
    · have hd := hd.1 q
      have h := fun v e => h v (Eq.trans e (if_pos q).symm)
      refine xj_E.adv 1 (pc' := 71) (ls' := [(0, .ref 0), (1, .int u1)]) (st' := [.int (-1)]) (w' := (SH, S, T)) rfl ?_
      exact xj_E.ret rfl rfl rfl rfl (h _ rfl)
    · have hd := hd.2 q
      have h := fun v e => h v (Eq.trans e (if_neg q).symm)
      refine xj_E.adv 4 (pc' := 21) (ls' := [(0, .ref 0), (1, .int u1)]) (st' := [.int u1, .ref 17]) (w' := (SH, S, T)) rfl ?_
      refine xj_E.iald rfl rfl hd.1 ?_
      have hd := hd.2
      refine xj_E.adv 2 (pc' := (if xj_cmp .ne (S 17 u1.toNatClampNeg) 2 = true then 64 else 26)) (ls' := [(0, .ref 0), (1, .int u1)]) (st' := []) (w' := (SH, S, T)) rfl ?_
      refine xj_E.b_ne (fun q => ?_) (fun q => ?_)
      · have hd := hd.1 q
        have h := fun v e => h v (Eq.trans e (if_pos q).symm)
        refine xj_E.adv 2 (pc' := 2) (ls' := [(1, .int (u1 + 1)), (0, .ref 0)]) (st' := []) (w' := (SH, S, T)) rfl ?_
        refine xj_E.loc [0, 1] xhth rfl (show xj_E (xX L xs) (d + 3) 51 2 [(0, .ref 0), (1, .int (u1 + 1))] [] (SH, S, T) P from ?_)
        exact (ih) _ hd h
      · have hd := hd.2 q
        have h := fun v e => h v (Eq.trans e (if_neg q).symm)
        refine xj_E.adv 7 (pc' := 41) (ls' := [(0, .ref 0), (1, .int u1)]) (st' := [.int u1, .ref 15, .ref 2]) (w' := (SH, S, T)) rfl ?_
        refine xj_E.iald rfl rfl hd.1 ?_
        have hd := hd.2
        refine xj_E.iald rfl rfl hd.1 ?_
        have hd := hd.2
        refine xj_E.adv 1 (pc' := (if xj_cmp .ne (S 2 (S 15 u1.toNatClampNeg).toNatClampNeg) 0 = true then 64 else 46)) (ls' := [(0, .ref 0), (1, .int u1)]) (st' := []) (w' := (SH, S, T)) rfl ?_
        refine xj_E.b_ne (fun q => ?_) (fun q => ?_)
        · have hd := hd.1 q
          have h := fun v e => h v (Eq.trans e (if_pos q).symm)
          refine xj_E.adv 2 (pc' := 2) (ls' := [(1, .int (u1 + 1)), (0, .ref 0)]) (st' := []) (w' := (SH, S, T)) rfl ?_
          refine xj_E.loc [0, 1] xhth rfl (show xj_E (xX L xs) (d + 3) 51 2 [(0, .ref 0), (1, .int (u1 + 1))] [] (SH, S, T) P from ?_)
          exact (ih) _ hd h
        · have hd := hd.2 q
          have h := fun v e => h v (Eq.trans e (if_neg q).symm)
          refine xj_E.adv 2 (pc' := 48) (ls' := [(0, .ref 0), (1, .int u1)]) (st' := [.int u1, .ref 0]) (w' := (SH, S, T)) rfl ?_
          refine xj_E.calli (d := d + 2) (S := SH) rfl rfl rfl rfl rfl (ok_c_parentLets hd.1 ?_)
          intro v e
          subst e
          refine ⟨_, S, T, rfl, rfl, rfl, rfl, ?_⟩
          have hd := hd.2
          refine xj_E.adv 1 (pc' := (if xj_cmp .eq (r_c_parentLets S u1) 0 = true then 64 else 54)) (ls' := [(0, .ref 0), (1, .int u1)]) (st' := []) (w' := (SH, S, T)) rfl ?_
          refine xj_E.b_eq (fun q => ?_) (fun q => ?_)
          · have hd := hd.1 q
            have h := fun v e => h v (Eq.trans e (if_pos q).symm)
            refine xj_E.adv 2 (pc' := 2) (ls' := [(1, .int (u1 + 1)), (0, .ref 0)]) (st' := []) (w' := (SH, S, T)) rfl ?_
            refine xj_E.loc [0, 1] xhth rfl (show xj_E (xX L xs) (d + 3) 51 2 [(0, .ref 0), (1, .int (u1 + 1))] [] (SH, S, T) P from ?_)
            exact (ih) _ hd h
          · have hd := hd.2 q
            have h := fun v e => h v (Eq.trans e (if_neg q).symm)
            refine xj_E.adv 2 (pc' := 56) (ls' := [(0, .ref 0), (1, .int u1)]) (st' := [.int u1, .ref 0]) (w' := (SH, S, T)) rfl ?_
            refine xj_E.calli (d := d + 2) (S := SH) rfl rfl rfl rfl rfl (ok_c_isDone hd.1 ?_)
            intro v e
            subst e
            refine ⟨_, S, T, rfl, rfl, rfl, rfl, ?_⟩
            have hd := hd.2
            refine xj_E.adv 1 (pc' := (if xj_cmp .eq (r_c_isDone S u1) 0 = true then 64 else 62)) (ls' := [(0, .ref 0), (1, .int u1)]) (st' := []) (w' := (SH, S, T)) rfl ?_
            refine xj_E.b_eq (fun q => ?_) (fun q => ?_)
            · have hd := hd.1 q
              have h := fun v e => h v (Eq.trans e (if_pos q).symm)
              refine xj_E.adv 2 (pc' := 2) (ls' := [(1, .int (u1 + 1)), (0, .ref 0)]) (st' := []) (w' := (SH, S, T)) rfl ?_
              refine xj_E.loc [0, 1] xhth rfl (show xj_E (xX L xs) (d + 3) 51 2 [(0, .ref 0), (1, .int (u1 + 1))] [] (SH, S, T) P from ?_)
              exact (ih) _ hd h
            · have hd := hd.2 q
              have h := fun v e => h v (Eq.trans e (if_neg q).symm)
              refine xj_E.adv 1 (pc' := 63) (ls' := [(0, .ref 0), (1, .int u1)]) (st' := [.int u1]) (w' := (SH, S, T)) rfl ?_
              exact xj_E.ret rfl rfl rfl rfl (h _ rfl)
set_option maxRecDepth 100000 in
theorem ok_c_lowestToComplete {L d : Nat} {xs : Nat → Int32} {S : Nat → Nat → Int32} {T : Nat → Nat → Int64} {P : (Option Value ⊕ Nat) → xj_W → Nat → Nat → Prop} (hd : d_c_lowestToComplete S ) (h : ∀ v, v = r_c_lowestToComplete S  → P (.inl (some (.int v))) (SH, S, T) 0 0) : xj_E (xX L xs) (d + 3) 51 0 [(0, .ref 0)] [] (SH, S, T) P := by
  unfold d_c_lowestToComplete at hd
  unfold r_c_lowestToComplete at h
  refine xj_E.adv 2 (pc' := 2) (ls' := [(1, .int 0), (0, .ref 0)]) (st' := []) (w' := (SH, S, T)) rfl ?_
  refine xj_E.loc [0, 1] xhth rfl (show xj_E (xX L xs) (d + 3) 51 2 [(0, .ref 0), (1, .int 0)] [] (SH, S, T) P from ?_)
  exact (okl_c_lowestToComplete 200) _ hd h
set_option maxRecDepth 100000 in
theorem ok_c_can {L d : Nat} {xs : Nat → Int32} {S : Nat → Nat → Int32} {T : Nat → Nat → Int64} {P : (Option Value ⊕ Nat) → xj_W → Nat → Nat → Prop} {a b : Int32} (hd : d_c_can S a b) (h : ∀ v, v = r_c_can S a b → P (.inl (some (.int v))) (SH, S, T) 0 0) : xj_E (xX L xs) (d + 4) 39 0 [(0, .ref 0), (1, .int a), (2, .int b)] [] (SH, S, T) P := by
  unfold d_c_can at hd
  unfold r_c_can at h
  refine xj_E.adv 3 (pc' := 5) (ls' := [(0, .ref 0), (1, .int a), (2, .int b)]) (st' := [.int a, .ref 14]) (w' := (SH, S, T)) rfl ?_
  refine xj_E.calli (d := d + 3) (S := SH) rfl rfl rfl rfl rfl (ok_l_has hd.1 ?_)
  intro v e
  subst e
  refine ⟨_, S, T, rfl, rfl, rfl, rfl, ?_⟩
  have hd := hd.2
  refine xj_E.adv 1 (pc' := (if xj_cmp .eq (r_l_has S a) 0 = true then 31 else 11)) (ls' := [(0, .ref 0), (1, .int a), (2, .int b)]) (st' := []) (w' := (SH, S, T)) rfl ?_
  refine xj_E.b_eq (fun q => ?_) (fun q => ?_)
  · have hd := hd.1 q
    have h := fun v e => h v (Eq.trans e (if_pos q).symm)
    refine xj_E.adv 1 (pc' := 32) (ls' := [(0, .ref 0), (1, .int a), (2, .int b)]) (st' := [.int 0]) (w' := (SH, S, T)) rfl ?_
    exact xj_E.ret rfl rfl rfl rfl (h _ rfl)
  · have hd := hd.2 q
    have h := fun v e => h v (Eq.trans e (if_neg q).symm)
    refine xj_E.adv 1 (pc' := 12) (ls' := [(0, .ref 0), (1, .int a), (2, .int b)]) (st' := [.int b]) (w' := (SH, S, T)) rfl ?_
    refine xj_E.calli (d := d + 3) (S := SH) rfl rfl rfl rfl rfl (ok_c_isCommandMove hd.1 ?_)
    intro v e
    subst e
    refine ⟨_, S, T, rfl, rfl, rfl, rfl, ?_⟩
    have hd := hd.2
    refine xj_E.adv 1 (pc' := (if xj_cmp .eq (r_c_isCommandMove S b) 0 = true then 31 else 18)) (ls' := [(0, .ref 0), (1, .int a), (2, .int b)]) (st' := []) (w' := (SH, S, T)) rfl ?_
    refine xj_E.b_eq (fun q => ?_) (fun q => ?_)
    · have hd := hd.1 q
      have h := fun v e => h v (Eq.trans e (if_pos q).symm)
      refine xj_E.adv 1 (pc' := 32) (ls' := [(0, .ref 0), (1, .int a), (2, .int b)]) (st' := [.int 0]) (w' := (SH, S, T)) rfl ?_
      exact xj_E.ret rfl rfl rfl rfl (h _ rfl)
    · have hd := hd.2 q
      have h := fun v e => h v (Eq.trans e (if_neg q).symm)
      refine xj_E.adv 3 (pc' := 21) (ls' := [(0, .ref 0), (1, .int a), (2, .int b)]) (st' := [.int b, .int a, .ref 0]) (w' := (SH, S, T)) rfl ?_
      refine xj_E.calli (d := d + 3) (S := SH) rfl rfl rfl rfl rfl (ok_c_mayBeMoved hd.1 ?_)
      intro v e
      subst e
      refine ⟨_, S, T, rfl, rfl, rfl, rfl, ?_⟩
      have hd := hd.2
      refine xj_E.adv 1 (pc' := (if xj_cmp .eq (r_c_mayBeMoved S a b) 0 = true then 31 else 27)) (ls' := [(0, .ref 0), (1, .int a), (2, .int b)]) (st' := []) (w' := (SH, S, T)) rfl ?_
      refine xj_E.b_eq (fun q => ?_) (fun q => ?_)
      · have hd := hd.1 q
        have h := fun v e => h v (Eq.trans e (if_pos q).symm)
        refine xj_E.adv 1 (pc' := 32) (ls' := [(0, .ref 0), (1, .int a), (2, .int b)]) (st' := [.int 0]) (w' := (SH, S, T)) rfl ?_
        exact xj_E.ret rfl rfl rfl rfl (h _ rfl)
      · have hd := hd.2 q
        have h := fun v e => h v (Eq.trans e (if_neg q).symm)
        refine xj_E.adv 2 (pc' := 32) (ls' := [(0, .ref 0), (1, .int a), (2, .int b)]) (st' := [.int 1]) (w' := (SH, S, T)) rfl ?_
        exact xj_E.ret rfl rfl rfl rfl (h _ rfl)
