/-! a method that stores: our machine does so -/
set_option maxHeartbeats 4000000 in
set_option maxRecDepth 100000 in
theorem ok_m_make {L : Nat} {xs : Nat → Int32} {T : Nat → Nat → Int64} {D : Nat} {S : (Nat → Nat → Int32)} {P : (Option Value ⊕ Nat) → xj_W → Nat → Nat → Prop} {a b : Int32} (hD : 5 ≤ D) (hd : d_m_make a b S) (h : ∀ v S9, (v, S9) = f_m_make a b S → P (.inl none) (SH, S9, T) 0 0) : xj_E (xX L xs) D 88 0 [(0, .ref 32), (1, .int a), (2, .int b)] [] (SH, S, T) P := by
  unfold d_m_make at hd
  unfold f_m_make at h
  obtain ⟨D1, rfl⟩ : ∃ D1, D = D1 + 1 := ⟨D - 1, by omega⟩
  refine xj_E.adv 6 (pc' := 8) (ls' := [(0, .ref 32), (1, .int a), (2, .int b)]) (st' := [.int b, .int a, .ref 32]) (w' := (SH, (xj_set S 32 39 0), T)) rfl ?_
  refine xj_E.callv (d := D1) (S := SH) rfl rfl rfl rfl rfl (ok_m_enter (by omega) hd.1 ?_)
  intro v1 S1 e1
  refine ⟨_, _, rfl, rfl, rfl, rfl, ?_⟩
  have hd := hd.2
  generalize f_m_enter a b (xj_set S 32 39 0) = Xe1 at e1 hd h
  subst e1
  refine xj_E.loc [0] xhth rfl (show xj_E (xX L xs) (D1 + 1) 88 11 [(0, .ref 32)] [] (SH, S1, T) P from ?_)
  exact ((okk_m_make 4000).1) _ _ _ (by omega) hd h
