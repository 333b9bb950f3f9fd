/-! a method that stores: our machine does so -/
set_option maxHeartbeats 4000000 in
set_option maxRecDepth 100000 in
theorem ok_c_mark {L : Nat} {xs : Nat → Int32} {T : Nat → Nat → Int64} {D : Nat} {S : (Nat → Nat → Int32)} {P : (Option Value ⊕ Nat) → xj_W → Nat → Nat → Prop} {a b : Int32} (hD : 1 ≤ D) (hd : d_c_mark a b S) (h : ∀ v S9, (v, S9) = f_c_mark a b S → P (.inl none) (SH, S9, T) 0 0) : xj_E (xX L xs) D 61 0 [(0, .ref 0), (1, .int a), (2, .int b)] [] (SH, S, T) P := by
  unfold d_c_mark at hd
  unfold f_c_mark at h
  obtain ⟨D1, rfl⟩ : ∃ D1, D = D1 + 1 := ⟨D - 1, by omega⟩
  refine xj_E.adv 3 (pc' := 5) (ls' := [(0, .ref 0), (1, .int a), (2, .int b)]) (st' := [.int a, .ref 14]) (w' := (SH, S, T)) rfl ?_
  refine xj_E.calli (d := D1) (S := SH) rfl rfl rfl rfl rfl (xj_E.deep (ok_l_isFinal (d := 0) hd.1 ?_) (by omega))
  intro w1 f1
  refine ⟨_, _, _, rfl, rfl, rfl, rfl, ?_⟩
  have hd := hd.2
  rw [← f1] at hd
  have h : ∀ v S9, (v, S9) = ((if (r_l_isFinal S a) ≠ 0 then ((0, S)) else ((0, (xj_set S 19 a.toNatClampNeg ((S 19 a.toNatClampNeg) ||| (b &&& (S 5 (S 15 a.toNatClampNeg).toNatClampNeg))))))) : Int32 × (Nat → Nat → Int32)) → P (.inl none) (SH, S9, T) 0 0 := h
  rw [← f1] at h
  refine xj_E.adv 1 (pc' := (if xj_cmp .ne w1 0 = true then 42 else 11)) (ls' := [(0, .ref 0), (1, .int a), (2, .int b)]) (st' := []) (w' := (SH, S, T)) rfl ?_
  refine xj_E.b_ne (fun q => ?_) (fun q => ?_)
  · have hd := hd.1 q
    have h := fun v S9 e => h v S9 (Eq.trans e (if_pos q).symm)
    exact xj_E.ret rfl rfl rfl rfl (h _ _ rfl)
  · have hd := hd.2 q
    have h := fun v S9 e => h v S9 (Eq.trans e (if_neg q).symm)
    refine xj_E.adv 5 (pc' := 20) (ls' := [(0, .ref 0), (1, .int a), (2, .int b)]) (st' := [.int a, .ref 19, .int a, .ref 19]) (w' := (SH, S, T)) rfl ?_
    refine xj_E.iald rfl rfl hd.1 ?_
    have hd := hd.2
    refine xj_E.adv 8 (pc' := 37) (ls' := [(0, .ref 0), (1, .int a), (2, .int b)]) (st' := [.int a, .ref 15, .ref 5, .int b, .int (S 19 a.toNatClampNeg), .int a, .ref 19]) (w' := (SH, S, T)) rfl ?_
    refine xj_E.iald rfl rfl hd.1 ?_
    have hd := hd.2
    refine xj_E.iald rfl rfl hd.1 ?_
    have hd := hd.2
    refine xj_E.adv 2 (pc' := 41) (ls' := [(0, .ref 0), (1, .int a), (2, .int b)]) (st' := [.int ((S 19 a.toNatClampNeg) ||| (b &&& (S 5 (S 15 a.toNatClampNeg).toNatClampNeg))), .int a, .ref 19]) (w' := (SH, S, T)) rfl ?_
    refine xj_E.iast rfl rfl hd.1 ?_
    have hd := hd.2
    exact xj_E.ret rfl rfl rfl rfl (h _ _ rfl)
