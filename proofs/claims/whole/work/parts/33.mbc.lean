/-! a method that stores: our machine does so -/
set_option maxHeartbeats 4000000 in
set_option maxRecDepth 100000 in
theorem ok_m_value {L : Nat} {xs : Nat → Int32} {T : Nat → Nat → Int64} {D : Nat} {S : (Nat → Nat → Int32)} {P : (Option Value ⊕ Nat) → xj_W → Nat → Nat → Prop} {a : Int32} (hD : 1 ≤ D) (hd : d_m_value a S) (h : ∀ v S9, (v, S9) = f_m_value a S → P (.inl (some (.int v))) (SH, S9, T) 0 0) : xj_E (xX L xs) D 108 0 [(0, .ref 32), (1, .int a)] [] (SH, S, T) P := by
  unfold d_m_value at hd
  unfold f_m_value at h
  obtain ⟨D1, rfl⟩ : ∃ D1, D = D1 + 1 := ⟨D - 1, by omega⟩
  refine xj_E.adv 5 (pc' := 7) (ls' := [(0, .ref 32), (1, .int a)]) (st' := [.int 3, .int a]) (w' := (SH, (xj_set S 32 0 0), T)) rfl ?_
  refine xj_E.calli (d := D1) (S := SH) rfl rfl rfl rfl rfl (xj_E.deep (ok_m_within (d := 0) hd.1 ?_) (by omega))
  intro w1 f1
  refine ⟨_, _, _, rfl, rfl, rfl, rfl, ?_⟩
  have hd := hd.2
  rw [← f1] at hd
  have h : ∀ v S9, (v, S9) = ((if (r_m_within (xj_set S 32 0 0) a 3) = 0 then ((0, (xj_set S 32 0 0))) else ((S 50 a.toNatClampNeg, (xj_set S 32 0 0)))) : Int32 × (Nat → Nat → Int32)) → P (.inl (some (.int v))) (SH, S9, T) 0 0 := h
  rw [← f1] at h
  refine xj_E.adv 1 (pc' := (if xj_cmp .eq w1 0 = true then 22 else 13)) (ls' := [(0, .ref 32), (1, .int a)]) (st' := []) (w' := (SH, (xj_set S 32 0 0), T)) rfl ?_
  refine xj_E.b_eq (fun q => ?_) (fun q => ?_)
  · have hd := hd.1 q
    have h := fun v S9 e => h v S9 (Eq.trans e (if_pos q).symm)
    refine xj_E.adv 1 (pc' := 23) (ls' := [(0, .ref 32), (1, .int a)]) (st' := [.int 0]) (w' := (SH, (xj_set S 32 0 0), T)) rfl ?_
    exact xj_E.ret rfl rfl rfl rfl (h _ _ rfl)
  · have hd := hd.2 q
    have h := fun v S9 e => h v S9 (Eq.trans e (if_neg q).symm)
    refine xj_E.adv 3 (pc' := 18) (ls' := [(0, .ref 32), (1, .int a)]) (st' := [.int a, .ref 50]) (w' := (SH, (xj_set S 32 0 0), T)) rfl ?_
    refine xj_E.iald rfl rfl hd.1 ?_
    have hd := hd.2
    refine xj_E.adv 1 (pc' := 23) (ls' := [(0, .ref 32), (1, .int a)]) (st' := [.int (S 50 a.toNatClampNeg)]) (w' := (SH, (xj_set S 32 0 0), T)) rfl ?_
    exact xj_E.ret rfl rfl rfl rfl (h _ _ rfl)
