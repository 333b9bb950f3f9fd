/-! a method that stores: our machine does so -/
set_option maxHeartbeats 4000000 in
set_option maxRecDepth 100000 in
theorem ok_l_note {L : Nat} {xs : Nat → Int32} {T : Nat → Nat → Int64} {D : Nat} {S : (Nat → Nat → Int32)} {P : (Option Value ⊕ Nat) → xj_W → Nat → Nat → Prop} {a b : Int32} (hD : 1 ≤ D) (hd : d_l_note a b S) (h : ∀ v S9, (v, S9) = f_l_note a b S → P (.inl none) (SH, S9, T) 0 0) : xj_E (xX L xs) D 8 0 [(0, .ref 14), (1, .int a), (2, .int b)] [] (SH, S, T) P := by
  unfold d_l_note at hd
  unfold f_l_note at h
  obtain ⟨D1, rfl⟩ : ∃ D1, D = D1 + 1 := ⟨D - 1, by omega⟩
  refine xj_E.adv 3 (pc' := 6) (ls' := [(0, .ref 14), (1, .int a), (2, .int b)]) (st' := [.int 48, .int (S 14 8)]) (w' := (SH, S, T)) rfl ?_
  refine xj_E.calli (d := D1) (S := SH) rfl rfl rfl rfl rfl (xj_E.deep (ok_f_floorMod (d := 0) hd.1 ?_) (by omega))
  intro w1 f1
  refine ⟨_, _, _, rfl, rfl, rfl, rfl, ?_⟩
  have hd := hd.2
  rw [← f1] at hd
  have h : ∀ v S9, (v, S9) = (((0, (xj_set (xj_set (xj_set (xj_set (xj_set S 17 a.toNatClampNeg (xst b.toNatClampNeg)) 18 a.toNatClampNeg ((S 18 a.toNatClampNeg) + 1)) 21 (r_f_floorMod S (S 14 8) 48).toNatClampNeg a) 22 (r_f_floorMod S (S 14 8) 48).toNatClampNeg b) 14 8 ((S 14 8) + 1)))) : Int32 × (Nat → Nat → Int32)) → P (.inl none) (SH, S9, T) 0 0 := h
  rw [← f1] at h
  refine xj_E.adv 6 (pc' := 19) (ls' := [(3, .int w1), (0, .ref 14), (1, .int a), (2, .int b)]) (st' := [.int b, .ref 1001, .int a, .ref 17]) (w' := (SH, S, T)) rfl ?_
  refine xj_E.igiv rfl rfl rfl hd.1 ?_
  have hd := hd.2
  refine xj_E.iast rfl rfl hd.1 ?_
  have hd := hd.2
  refine xj_E.adv 4 (pc' := 27) (ls' := [(3, .int w1), (0, .ref 14), (1, .int a), (2, .int b)]) (st' := [.int a, .ref 18, .int a, .ref 18]) (w' := (SH, (xj_set S 17 a.toNatClampNeg (xst b.toNatClampNeg)), T)) rfl ?_
  refine xj_E.iald rfl rfl hd.1 ?_
  have hd := hd.2
  refine xj_E.adv 2 (pc' := 30) (ls' := [(3, .int w1), (0, .ref 14), (1, .int a), (2, .int b)]) (st' := [.int ((S 18 a.toNatClampNeg) + 1), .int a, .ref 18]) (w' := (SH, (xj_set S 17 a.toNatClampNeg (xst b.toNatClampNeg)), T)) rfl ?_
  refine xj_E.iast rfl rfl hd.1 ?_
  have hd := hd.2
  refine xj_E.adv 4 (pc' := 37) (ls' := [(3, .int w1), (0, .ref 14), (1, .int a), (2, .int b)]) (st' := [.int a, .int w1, .ref 21]) (w' := (SH, (xj_set (xj_set S 17 a.toNatClampNeg (xst b.toNatClampNeg)) 18 a.toNatClampNeg ((S 18 a.toNatClampNeg) + 1)), T)) rfl ?_
  refine xj_E.iast rfl rfl hd.1 ?_
  have hd := hd.2
  refine xj_E.adv 4 (pc' := 44) (ls' := [(3, .int w1), (0, .ref 14), (1, .int a), (2, .int b)]) (st' := [.int b, .int w1, .ref 22]) (w' := (SH, (xj_set (xj_set (xj_set S 17 a.toNatClampNeg (xst b.toNatClampNeg)) 18 a.toNatClampNeg ((S 18 a.toNatClampNeg) + 1)) 21 w1.toNatClampNeg a), T)) rfl ?_
  refine xj_E.iast rfl rfl hd.1 ?_
  have hd := hd.2
  refine xj_E.adv 6 (pc' := 55) (ls' := [(3, .int w1), (0, .ref 14), (1, .int a), (2, .int b)]) (st' := []) (w' := (SH, (xj_set (xj_set (xj_set (xj_set (xj_set S 17 a.toNatClampNeg (xst b.toNatClampNeg)) 18 a.toNatClampNeg ((S 18 a.toNatClampNeg) + 1)) 21 w1.toNatClampNeg a) 22 w1.toNatClampNeg b) 14 8 ((S 14 8) + 1)), T)) rfl ?_
  exact xj_E.ret rfl rfl rfl rfl (h _ _ rfl)
