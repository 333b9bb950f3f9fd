/-! methods that may throw: our machine does so -/
theorem xj_E.callt {X : xj_T} {d m pc nx kd u : Nat} {ls : List (Nat × Value)} {st av rest : List Value} {w : xj_W} {P : (Option Value ⊕ Nat) → xj_W → Nat → Nat → Prop} {i : Instr} (hcd : xj_cd X m pc = some (i, nx)) (hs : xj_step X m i nx pc ls st w = none) (hi : xj_inv X m i st w = some (kd, u, av, rest)) (hsf : xj_safe w.1.length ls rest = true) (hon : xj_one av = true) (hk : kd = 1) (hca : ∀ q, xj_ca X m pc q = some none)
    (h : xj_E X d u 0 (lv_args 0 av) [] w (fun o w' c z => match o with
      | .inl v => c = 0 ∧ z = 0 ∧ xj_E X (d + 1) m nx ls (v.toList ++ rest) w' P
      | .inr q => P (.inr q) w' c z)) : xj_E X (d + 1) m pc ls st w P := by
  refine xj_E.call hcd hs hi hsf hon (h.mono ?_)
  intro o w' c z hh
  cases o with
  | inl v =>
    obtain ⟨h1, h2, h3⟩ := hh
    subst h1
    subst h2
    exact h3.mono (fun o2 w2 c2 z2 h2 => by rw [Nat.zero_add, Nat.zero_add]; exact h2)
  | inr q =>
    refine ⟨hk, ?_⟩
    rw [hca q]
    exact hh
