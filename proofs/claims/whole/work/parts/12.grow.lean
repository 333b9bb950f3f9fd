/-! cells are only added; references that are kept mean the same -/
def xj_ag (n : Nat) (ad ad' : Nat → Nat) : Prop := ∀ i, i < n ∨ (1000 ≤ i ∧ i < 2000) → ad' i = ad i
theorem xj_ag.rf {n : Nat} {ad : Nat → Nat} : xj_ag n ad ad := fun _ _ => rfl
theorem xj_ag.trans {n n' : Nat} {a b c : Nat → Nat} (h : xj_ag n a b) (hn : n ≤ n') (h' : xj_ag n' b c) : xj_ag n a c := fun i hi => (h' i (hi.imp (fun q => Nat.lt_of_lt_of_le q hn) id)).trans (h i hi)
theorem xj_cv_ag {n : Nat} {ad ad' : Nat → Nat} (h : xj_ag n ad ad') {v : Value} (hv : xj_ok n v = true) : xj_cv ad' v = xj_cv ad v := by
  cases v with
  | ref a =>
    simp only [xj_ok, Bool.or_eq_true, Bool.and_eq_true, decide_eq_true_eq] at hv
    simp only [xj_cv, h a hv]
  | _ => rfl
theorem xj_cl_ag {n : Nat} {ad ad' : Nat → Nat} (h : xj_ag n ad ad') {ls : List (Nat × Value)} (hv : ls.all (fun q => xj_ok n q.2) = true) : xj_cl ad' ls = xj_cl ad ls := by
  apply List.map_congr_left
  intro q hq
  rw [xj_cv_ag h (List.all_eq_true.mp hv q hq)]
theorem xj_st_ag {n : Nat} {ad ad' : Nat → Nat} (h : xj_ag n ad ad') {st : List Value} (hv : st.all (xj_ok n) = true) : st.map (xj_cv ad') = st.map (xj_cv ad) := by
  apply List.map_congr_left
  intro q hq
  rw [xj_cv_ag h (List.all_eq_true.mp hv q hq)]
/-- a plain step makes no cell -/
theorem xj_step_len {X : xj_T} {m : Nat} {i : Instr} {nx pc pc' : Nat} {ls ls' : List (Nat × Value)} {st st' : List Value} {w w' : xj_W} (h : xj_step X m i nx pc ls st w = some (pc', ls', st', w')) : w'.1.length = w.1.length := by
  unfold xj_step at h
  rcases xj_or_some h with h | h
  · unfold xj_sA at h
    split at h <;> simp only [Option.some.injEq, Prod.mk.injEq, reduceCtorEq] at h
    obtain ⟨-, -, -, rfl⟩ := h; rfl
  rcases xj_or_some h with h | h
  · unfold xj_sB at h
    repeat' split at h
    all_goals simp only [Option.some.injEq, Prod.mk.injEq, reduceCtorEq] at h
    obtain ⟨-, -, -, rfl⟩ := h; rfl
  rcases xj_or_some h with h | h
  · unfold xj_sC at h
    repeat' split at h
    all_goals simp only [Option.some.injEq, Prod.mk.injEq, reduceCtorEq] at h
    obtain ⟨-, -, -, rfl⟩ := h; rfl
  rcases xj_or_some h with h | h
  · unfold xj_sD at h
    repeat' split at h
    all_goals simp only [Option.some.injEq, Prod.mk.injEq, reduceCtorEq] at h
    obtain ⟨-, -, -, rfl⟩ := h; rfl
  rcases xj_or_some h with h | h
  · unfold xj_sE at h
    repeat' split at h
    all_goals simp only [Option.some.injEq, Prod.mk.injEq, reduceCtorEq] at h
    obtain ⟨-, -, -, rfl⟩ := h; rfl
  rcases xj_or_some h with h | h
  · unfold xj_sF at h
    repeat' split at h
    all_goals simp only [Option.some.injEq, Prod.mk.injEq, reduceCtorEq] at h
    obtain ⟨-, -, -, rfl⟩ := h; rfl
  rcases xj_or_some h with h | h
  · unfold xj_sG at h
    repeat' split at h
    all_goals simp only [Option.some.injEq, Prod.mk.injEq, reduceCtorEq] at h
    all_goals (obtain ⟨-, -, -, rfl⟩ := h; rfl)
  rcases xj_or_some h with h | h
  · unfold xj_sJ at h
    repeat' split at h
    all_goals simp only [Option.some.injEq, Prod.mk.injEq, reduceCtorEq] at h
    all_goals (obtain ⟨-, -, -, rfl⟩ := h; first | rfl | exact List.length_set)
  rcases xj_or_some h with h | h
  · unfold xj_sL at h
    repeat' split at h
    all_goals simp only [Option.some.injEq, Prod.mk.injEq, reduceCtorEq] at h
    all_goals (obtain ⟨-, -, -, rfl⟩ := h; rfl)
  rcases xj_or_some h with h | h
  · unfold xj_sH at h
    repeat' split at h
    all_goals first
      | cases h
      | (obtain ⟨t, -, he⟩ := Option.map_eq_some_iff.mp h
         simp only [Prod.mk.injEq] at he
         obtain ⟨-, -, -, rfl⟩ := he; rfl)
  rcases xj_or_some h with h | h
  · unfold xj_sI at h
    repeat' split at h
    all_goals simp only [Option.some.injEq, Prod.mk.injEq, reduceCtorEq] at h
    all_goals (obtain ⟨-, -, -, rfl⟩ := h; rfl)
  · unfold xj_sM at h
    repeat' split at h
    all_goals simp only [Option.some.injEq, Prod.mk.injEq, reduceCtorEq] at h
    all_goals (obtain ⟨-, -, -, rfl⟩ := h; rfl)
theorem xj_end_w {X : xj_T} {m : Nat} {i : Instr} {st : List Value} {w w' : xj_W} {o : Option Value ⊕ Nat} {c z : Nat} (h : xj_end X m i st w = some (o, w', c, z)) : w' = w ∧ c = 0 ∧ z = 0 := by
  unfold xj_end at h
  repeat' split at h
  all_goals simp only [Option.some.injEq, Prod.mk.injEq, reduceCtorEq] at h
  all_goals (obtain ⟨-, rfl, rfl, rfl⟩ := h; exact ⟨rfl, rfl, rfl⟩)
theorem xj_grow (X : xj_T) : ∀ (n d m pc : Nat) (ls : List (Nat × Value)) (st : List Value) (w : xj_W) (o : Option Value ⊕ Nat) (w' : xj_W) (c z : Nat), xj_run X n d m pc ls st w = some (o, w', c, z) → w.1.length ≤ w'.1.length := by
  intro n
  induction n with
  | zero => intro d m pc ls st w o w' c z h; simp [xj_run] at h
  | succ n ih =>
    intro d m pc ls st w o w' c z h
    rw [xj_run_succ] at h
    unfold xj_lay at h
    cases hcd : xj_cd X m pc with
    | none => simp [hcd] at h
    | some q =>
      obtain ⟨i, nx⟩ := q
      simp only [hcd] at h
      cases hs : xj_step X m i nx pc ls st w with
      | some f =>
        obtain ⟨pc', ls', st', w1⟩ := f
        simp only [hs] at h
        have h1 := ih _ _ _ _ _ _ _ _ _ _ h
        rw [xj_step_len hs] at h1
        exact h1
      | none =>
        simp only [hs] at h
        cases hi : xj_inv X m i st w with
        | some f =>
          obtain ⟨kd, y, av, rest⟩ := f
          simp only [hi] at h
          split at h
          · cases hy : xj_run X n (d - 1) y 0 (lv_args 0 av) [] w with
            | none => simp [hy] at h
            | some f =>
              obtain ⟨o1, w1, c1, z1⟩ := f
              have h1 := ih _ _ _ _ _ _ _ _ _ _ hy
              simp only [hy] at h
              cases o1 with
              | inl v =>
                simp only at h
                obtain ⟨o2, w2, c2, z2, e1, e2⟩ := xj_add_some h
                have h2 := ih _ _ _ _ _ _ _ _ _ _ e1
                simp only [Prod.mk.injEq] at e2
                obtain ⟨-, rfl, -, -⟩ := e2
                exact Nat.le_trans h1 h2
              | inr q =>
                simp only at h
                cases hca : xj_ca X m pc q with
                | none => simp [hca] at h
                | some hp0 =>
                 cases hp0 with
                 | none =>
                  simp only [hca] at h
                  split at h
                  · simp only [Option.some.injEq, Prod.mk.injEq] at h
                    obtain ⟨-, rfl, -, -⟩ := h
                    exact h1
                  · cases h
                 | some hp =>
                  simp only [hca] at h
                  split at h
                  · obtain ⟨o2, w2, c2, z2, e1, e2⟩ := xj_add_some h
                    have h2 := ih _ _ _ _ _ _ _ _ _ _ e1
                    simp only [Prod.mk.injEq] at e2
                    obtain ⟨-, rfl, -, -⟩ := e2
                    exact Nat.le_trans h1 h2
                  · cases h
          · cases h
        | none =>
          simp only [hi] at h
          cases he : xj_end X m i st w with
          | some f =>
            obtain ⟨o1, w1, c1, z1⟩ := f
            simp only [he, Option.some.injEq, Prod.mk.injEq] at h
            obtain ⟨-, rfl, -, -⟩ := h
            rw [(xj_end_w he).1]
            exact Nat.le_refl _
          | none =>
            simp only [he] at h
            cases ht : xj_th X m pc with
            | some q =>
              simp only [ht] at h
              split at h
              · simp only [Option.some.injEq, Prod.mk.injEq] at h
                obtain ⟨-, rfl, -, -⟩ := h
                exact Nat.le_refl _
              · cases h
            | none =>
              simp only [ht] at h
              cases hk : xj_mk X m i st with
              | none => simp [hk] at h
              | some f =>
                obtain ⟨sh, z0, rest⟩ := f
                simp only [hk] at h
                split at h
                · obtain ⟨o2, w2, c2, z2, e1, e2⟩ := xj_add_some h
                  have h2 := ih _ _ _ _ _ _ _ _ _ _ e1
                  simp only [Prod.mk.injEq] at e2
                  obtain ⟨-, rfl, -, -⟩ := e2
                  simp only [List.length_append, List.length_cons, List.length_nil] at h2
                  omega
                · cases h
