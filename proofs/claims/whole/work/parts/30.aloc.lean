/-! locals that are no longer read may be left out -/
def xj_kp (ls : List (Nat × Value)) (q : Nat × Value) : Bool := match q.2 with
  | .int _ => true
  | .ref a => (decide (1000 ≤ a) && decide (a < 2000)) || (match ls.lookup q.1 with
    | some (.ref b) => a == b
    | _ => false)
  | _ => false
def xj_le (l k : List (Nat × Value)) : Prop := (∀ i v, l.lookup i = some v → k.lookup i = some v) ∧ (∀ q ∈ k, xj_kp l q = true) ∧ (∀ q ∈ l, q.2.category = 1)
theorem xj_kp_cat {l : List (Nat × Value)} {q : Nat × Value} (h : xj_kp l q = true) : q.2.category = 1 := by
  obtain ⟨a, v⟩ := q
  cases v <;> first | rfl | (simp [xj_kp] at h)
theorem xj_lk_mem {l : List (Nat × Value)} {i : Nat} {v : Value} (h : l.lookup i = some v) : (i, v) ∈ l := by
  induction l with
  | nil => cases h
  | cons q r ih =>
    obtain ⟨a, u⟩ := q
    by_cases e : i = a
    · subst e
      simp only [List.lookup_cons, beq_self_eq_true, Option.some.injEq] at h
      subst h
      exact List.mem_cons_self
    · have e2 : (i == a) = false := by simpa using e
      simp only [List.lookup_cons, e2] at h
      exact List.mem_cons_of_mem _ (ih h)
theorem xj_lk_st {l : List (Nat × Value)} {i k : Nat} {v : Value} (hc : ∀ q ∈ l, q.2.category = 1) (hk : k ≠ i) : (xj_st1 l i v).lookup k = l.lookup k := by
  have e : (k == i) = false := by simpa using hk
  simp only [xj_st1, List.lookup_cons, e]
  induction l with
  | nil => rfl
  | cons q r ih =>
    obtain ⟨a, u⟩ := q
    have hu : u.category = 1 := hc (a, u) List.mem_cons_self
    have ih := ih (fun q hq => hc q (List.mem_cons_of_mem _ hq))
    by_cases ea : a = i
    · subst ea
      have e3 : (!((a, u).1 == a) && !((a, u).1 + 1 == a && (a, u).2.category == 2)) = false := by simp
      simp only [List.filter_cons, e3, List.lookup_cons, e]
      exact ih
    · have e3 : (!((a, u).1 == i) && !((a, u).1 + 1 == i && (a, u).2.category == 2)) = true := by simp [ea, hu]
      simp only [List.filter_cons, e3, if_true, List.lookup_cons]
      rw [ih]
theorem xj_lk_st0 {l : List (Nat × Value)} {i : Nat} {v : Value} : (xj_st1 l i v).lookup i = some v := by
  simp only [xj_st1, List.lookup_cons, beq_self_eq_true]
theorem xj_le_st {l k : List (Nat × Value)} {i : Nat} {v : Value} (h : xj_le l k) (hv : (∃ x, v = .int x) ∨ ∃ a, v = .ref a) : xj_le (xj_st1 l i v) (xj_st1 k i v) := by
  obtain ⟨h1, h2, h3⟩ := h
  have hck : ∀ q ∈ k, q.2.category = 1 := fun q hq => xj_kp_cat (h2 q hq)
  have hvc : v.category = 1 := by rcases hv with ⟨x, rfl⟩ | ⟨a, rfl⟩ <;> rfl
  refine ⟨?_, ?_, ?_⟩
  · intro j u hj
    by_cases e : j = i
    · subst e
      rw [xj_lk_st0] at hj ⊢
      exact hj
    · rw [xj_lk_st h3 e] at hj
      rw [xj_lk_st hck e]
      exact h1 _ _ hj
  · intro q hq
    rcases List.mem_cons.mp hq with rfl | hq
    · rcases hv with ⟨x, rfl⟩ | ⟨a, rfl⟩
      · rfl
      · simp [xj_kp, xj_lk_st0]
    · obtain ⟨hq1, hq2⟩ := List.mem_filter.mp hq
      have h9 := h2 q hq1
      have hqi : q.1 ≠ i := by
        intro e9
        simp [e9] at hq2
      simp only [xj_kp, xj_lk_st h3 hqi] at h9 ⊢
      exact h9
  · intro q hq
    rcases List.mem_cons.mp hq with rfl | hq
    · exact hvc
    · exact h3 q (List.mem_filter.mp hq).1
theorem xj_le_safe {l k : List (Nat × Value)} {n : Nat} {st : List Value} (h : xj_le l k) (hs : xj_safe n l st = true) : xj_safe n k st = true := by
  obtain ⟨h1, h2, h3⟩ := h
  simp only [xj_safe, Bool.and_eq_true, List.all_eq_true] at hs ⊢
  refine ⟨fun q hq => ?_, hs.2⟩
  have h9 := h2 q hq
  obtain ⟨a, v⟩ := q
  cases v with
  | int x => rfl
  | ref b =>
    simp only [xj_kp, Bool.or_eq_true] at h9
    rcases h9 with h9 | h9
    · simp only [xj_ok, h9, Bool.or_true]
    · split at h9
      · rename_i b9 hb9
        have hm := hs.1 _ (xj_lk_mem hb9)
        have e9 : b = b9 := by simpa using h9
        subst e9
        exact hm
      · cases h9
  | _ => simp [xj_kp] at h9
def xj_rl (ls : List (Nat × Value)) (f : xj_F) : xj_F := (f.1, ls, f.2.2)
theorem xj_or_rl {a b c d : Option xj_F} {ls : List (Nat × Value)} (h1 : a = b.map (xj_rl ls)) (h2 : c = d.map (xj_rl ls)) : xj_or a c = (xj_or b d).map (xj_rl ls) := by
  subst h1; subst h2
  cases b <;> rfl
section XLOC
variable {X : xj_T} {m nx pc : Nat} {i : Instr} {ls : List (Nat × Value)} {st : List Value} {w : xj_W}
theorem xj_rlA : xj_sA i nx ls st w = (xj_sA i nx [] st w).map (xj_rl ls) := by
  unfold xj_sA
  cases xj_const i <;> rfl
theorem xj_rlE : xj_sE i nx ls st w = (xj_sE i nx [] st w).map (xj_rl ls) := by
  unfold xj_sE
  split
  · cases xj_op2 i _ _ <;> rfl
  · rfl
theorem xj_rlF : xj_sF i nx ls st w = (xj_sF i nx [] st w).map (xj_rl ls) := by
  unfold xj_sF
  cases xj_stk i st <;> rfl
theorem xj_rlG : xj_sG i nx pc ls st w = (xj_sG i nx pc [] st w).map (xj_rl ls) := by
  unfold xj_sG
  split <;> (try rfl) <;> split <;> rfl
theorem xj_rlJ : xj_sJ X m i nx ls st w = (xj_sJ X m i nx [] st w).map (xj_rl ls) := by
  unfold xj_sJ
  repeat' split
  all_goals first | rfl | simp_all
theorem xj_rlL : xj_sL X i nx ls st w = (xj_sL X i nx [] st w).map (xj_rl ls) := by
  unfold xj_sL
  repeat' split
  all_goals first | rfl | simp_all
theorem xj_rlH : xj_sH i pc ls st w = (xj_sH i pc [] st w).map (xj_rl ls) := by
  unfold xj_sH
  repeat' split
  all_goals first | rfl | (simp only [Option.map_map]; rfl) | simp_all
theorem xj_rlI : xj_sI i nx ls st w = (xj_sI i nx [] st w).map (xj_rl ls) := by
  unfold xj_sI
  repeat' split
  all_goals first | rfl | simp_all
theorem xj_rlM : xj_sM X m i nx ls st w = (xj_sM X m i nx [] st w).map (xj_rl ls) := by
  unfold xj_sM
  repeat' split
  all_goals first | rfl | simp_all
theorem xj_stf (hB : xj_load i = none) (hC : xj_store i = none) (hD : ∀ k z, i ≠ .iinc k z) : xj_step X m i nx pc ls st w = (xj_step X m i nx pc [] st w).map (xj_rl ls) := by
  have b : ∀ l, xj_sB i nx l st w = none := fun l => by unfold xj_sB; rw [hB]
  have c : ∀ l, xj_sC i nx l st w = none := fun l => by unfold xj_sC; rw [hC]
  have e : ∀ l, xj_sD i nx l st w = none := fun l => by
    unfold xj_sD
    split
    · exact absurd rfl (hD _ _)
    · rfl
  unfold xj_step
  rw [b, b, c, c, e, e]
  exact xj_or_rl xj_rlA (xj_or_rl rfl (xj_or_rl rfl (xj_or_rl rfl (xj_or_rl xj_rlE (xj_or_rl xj_rlF (xj_or_rl xj_rlG (xj_or_rl xj_rlJ (xj_or_rl xj_rlL (xj_or_rl xj_rlH (xj_or_rl xj_rlI xj_rlM))))))))))
theorem xj_ldn (hB : xj_load i = none) (hC : xj_store i = none) (hD : ∀ k z, i ≠ .iinc k z) {l : List (Nat × Value)} (h : xj_step X m i nx pc l st w = none) : xj_step X m i nx pc ls st w = none := by
  rw [xj_stf hB hC hD] at h ⊢
  cases h9 : xj_step X m i nx pc [] st w with
  | none => rfl
  | some f => rw [h9] at h; cases h
theorem xj_oB {q : Bool × Nat} (h : xj_load i = some q) : xj_step X m i nx pc ls st w = xj_sB i nx ls st w ∧ xj_inv X m i st w = none ∧ xj_end X m i st w = none ∧ xj_mk X m i st = none := by
  have hA : xj_sA i nx ls st w = none := by
    unfold xj_sA
    cases i <;> first | (cases h; done) | rfl | (split <;> rfl) | (split <;> first | rfl | (split <;> rfl))
  have hC : xj_sC i nx ls st w = none := by
    unfold xj_sC
    cases i <;> first | (cases h; done) | rfl | (split <;> rfl) | (split <;> first | rfl | (split <;> rfl))
  have hD : xj_sD i nx ls st w = none := by
    unfold xj_sD
    cases i <;> first | (cases h; done) | rfl | (split <;> rfl) | (split <;> first | rfl | (split <;> rfl))
  have hE : xj_sE i nx ls st w = none := by
    unfold xj_sE
    cases i <;> first | (cases h; done) | rfl | (split <;> rfl) | (split <;> first | rfl | (split <;> rfl))
  have hF : xj_sF i nx ls st w = none := by
    unfold xj_sF
    cases i <;> first | (cases h; done) | rfl | (split <;> rfl) | (split <;> first | rfl | (split <;> rfl))
  have hG : xj_sG i nx pc ls st w = none := by
    unfold xj_sG
    cases i <;> first | (cases h; done) | rfl | (split <;> rfl) | (split <;> first | rfl | (split <;> rfl))
  have hJ : xj_sJ X m i nx ls st w = none := by
    unfold xj_sJ
    cases i <;> first | (cases h; done) | rfl | (split <;> rfl) | (split <;> first | rfl | (split <;> rfl))
  have hL : xj_sL X i nx ls st w = none := by
    unfold xj_sL
    cases i <;> first | (cases h; done) | rfl | (split <;> rfl) | (split <;> first | rfl | (split <;> rfl))
  have hH : xj_sH i pc ls st w = none := by
    unfold xj_sH
    cases i <;> first | (cases h; done) | rfl | (split <;> rfl) | (split <;> first | rfl | (split <;> rfl))
  have hI : xj_sI i nx ls st w = none := by
    unfold xj_sI
    cases i <;> first | (cases h; done) | rfl | (split <;> rfl) | (split <;> first | rfl | (split <;> rfl))
  have hM : xj_sM X m i nx ls st w = none := by
    unfold xj_sM
    cases i <;> first | (cases h; done) | rfl | (split <;> rfl) | (split <;> first | rfl | (split <;> rfl))
  refine ⟨?_, ?_, ?_, ?_⟩
  · unfold xj_step
    rw [hA, hC, hD, hE, hF, hG, hJ, hL, hH, hI, hM]
    cases xj_sB i nx ls st w <;> rfl
  · unfold xj_inv
    cases i <;> first | (cases h; done) | rfl | (split <;> rfl)
  · unfold xj_end
    cases i <;> first | (cases h; done) | rfl | (split <;> rfl)
  · unfold xj_mk
    cases i <;> first | (cases h; done) | rfl | (split <;> rfl)
theorem xj_oC {q : Bool × Nat} (h : xj_store i = some q) : xj_step X m i nx pc ls st w = xj_sC i nx ls st w ∧ xj_inv X m i st w = none ∧ xj_end X m i st w = none ∧ xj_mk X m i st = none := by
  have hA : xj_sA i nx ls st w = none := by
    unfold xj_sA
    cases i <;> first | (cases h; done) | rfl | (split <;> rfl) | (split <;> first | rfl | (split <;> rfl))
  have hB : xj_sB i nx ls st w = none := by
    unfold xj_sB
    cases i <;> first | (cases h; done) | rfl | (split <;> rfl) | (split <;> first | rfl | (split <;> rfl))
  have hD : xj_sD i nx ls st w = none := by
    unfold xj_sD
    cases i <;> first | (cases h; done) | rfl | (split <;> rfl) | (split <;> first | rfl | (split <;> rfl))
  have hE : xj_sE i nx ls st w = none := by
    unfold xj_sE
    cases i <;> first | (cases h; done) | rfl | (split <;> rfl) | (split <;> first | rfl | (split <;> rfl))
  have hF : xj_sF i nx ls st w = none := by
    unfold xj_sF
    cases i <;> first | (cases h; done) | rfl | (split <;> rfl) | (split <;> first | rfl | (split <;> rfl))
  have hG : xj_sG i nx pc ls st w = none := by
    unfold xj_sG
    cases i <;> first | (cases h; done) | rfl | (split <;> rfl) | (split <;> first | rfl | (split <;> rfl))
  have hJ : xj_sJ X m i nx ls st w = none := by
    unfold xj_sJ
    cases i <;> first | (cases h; done) | rfl | (split <;> rfl) | (split <;> first | rfl | (split <;> rfl))
  have hL : xj_sL X i nx ls st w = none := by
    unfold xj_sL
    cases i <;> first | (cases h; done) | rfl | (split <;> rfl) | (split <;> first | rfl | (split <;> rfl))
  have hH : xj_sH i pc ls st w = none := by
    unfold xj_sH
    cases i <;> first | (cases h; done) | rfl | (split <;> rfl) | (split <;> first | rfl | (split <;> rfl))
  have hI : xj_sI i nx ls st w = none := by
    unfold xj_sI
    cases i <;> first | (cases h; done) | rfl | (split <;> rfl) | (split <;> first | rfl | (split <;> rfl))
  have hM : xj_sM X m i nx ls st w = none := by
    unfold xj_sM
    cases i <;> first | (cases h; done) | rfl | (split <;> rfl) | (split <;> first | rfl | (split <;> rfl))
  refine ⟨?_, ?_, ?_, ?_⟩
  · unfold xj_step
    rw [hA, hB, hD, hE, hF, hG, hJ, hL, hH, hI, hM]
    cases xj_sC i nx ls st w <;> rfl
  · unfold xj_inv
    cases i <;> first | (cases h; done) | rfl | (split <;> rfl)
  · unfold xj_end
    cases i <;> first | (cases h; done) | rfl | (split <;> rfl)
  · unfold xj_mk
    cases i <;> first | (cases h; done) | rfl | (split <;> rfl)
theorem xj_oD {k : Nat} {z : Int} (h : i = .iinc k z) : xj_step X m i nx pc ls st w = xj_sD i nx ls st w ∧ xj_inv X m i st w = none ∧ xj_end X m i st w = none ∧ xj_mk X m i st = none := by
  have hA : xj_sA i nx ls st w = none := by
    unfold xj_sA
    cases i <;> first | (cases h; done) | rfl | (split <;> rfl) | (split <;> first | rfl | (split <;> rfl))
  have hB : xj_sB i nx ls st w = none := by
    unfold xj_sB
    cases i <;> first | (cases h; done) | rfl | (split <;> rfl) | (split <;> first | rfl | (split <;> rfl))
  have hC : xj_sC i nx ls st w = none := by
    unfold xj_sC
    cases i <;> first | (cases h; done) | rfl | (split <;> rfl) | (split <;> first | rfl | (split <;> rfl))
  have hE : xj_sE i nx ls st w = none := by
    unfold xj_sE
    cases i <;> first | (cases h; done) | rfl | (split <;> rfl) | (split <;> first | rfl | (split <;> rfl))
  have hF : xj_sF i nx ls st w = none := by
    unfold xj_sF
    cases i <;> first | (cases h; done) | rfl | (split <;> rfl) | (split <;> first | rfl | (split <;> rfl))
  have hG : xj_sG i nx pc ls st w = none := by
    unfold xj_sG
    cases i <;> first | (cases h; done) | rfl | (split <;> rfl) | (split <;> first | rfl | (split <;> rfl))
  have hJ : xj_sJ X m i nx ls st w = none := by
    unfold xj_sJ
    cases i <;> first | (cases h; done) | rfl | (split <;> rfl) | (split <;> first | rfl | (split <;> rfl))
  have hL : xj_sL X i nx ls st w = none := by
    unfold xj_sL
    cases i <;> first | (cases h; done) | rfl | (split <;> rfl) | (split <;> first | rfl | (split <;> rfl))
  have hH : xj_sH i pc ls st w = none := by
    unfold xj_sH
    cases i <;> first | (cases h; done) | rfl | (split <;> rfl) | (split <;> first | rfl | (split <;> rfl))
  have hI : xj_sI i nx ls st w = none := by
    unfold xj_sI
    cases i <;> first | (cases h; done) | rfl | (split <;> rfl) | (split <;> first | rfl | (split <;> rfl))
  have hM : xj_sM X m i nx ls st w = none := by
    unfold xj_sM
    cases i <;> first | (cases h; done) | rfl | (split <;> rfl) | (split <;> first | rfl | (split <;> rfl))
  refine ⟨?_, ?_, ?_, ?_⟩
  · unfold xj_step
    rw [hA, hB, hC, hE, hF, hG, hJ, hL, hH, hI, hM]
    cases xj_sD i nx ls st w <;> rfl
  · unfold xj_inv
    cases i <;> first | (cases h; done) | rfl | (split <;> rfl)
  · unfold xj_end
    cases i <;> first | (cases h; done) | rfl | (split <;> rfl)
  · unfold xj_mk
    cases i <;> first | (cases h; done) | rfl | (split <;> rfl)
theorem xj_run_le (hth : ∀ m pc q, xj_th X m pc = some q → ∃ ix nx, xj_cd X m pc = some (.new ix, nx)) : ∀ (n d m pc : Nat) (l k : List (Nat × Value)) (st : List Value) (w : xj_W) (r : xj_R), xj_le l k → xj_run X n d m pc l st w = some r → xj_run X n d m pc k st w = some r := by
  intro n
  induction n with
  | zero => intro d m pc l k st w r _ h; simp [xj_run] at h
  | succ n ih =>
    intro d m pc l k st w r hle h
    rw [xj_run_succ] at h ⊢
    unfold xj_lay at h ⊢
    cases hcd : xj_cd X m pc with
    | none => simp [hcd] at h
    | some q =>
      obtain ⟨i, nx⟩ := q
      simp only [hcd] at h ⊢
      by_cases hB : xj_load i = none
      · by_cases hC : xj_store i = none
        · by_cases hD : ∀ k z, i ≠ .iinc k z
          · cases hs : xj_step X m i nx pc l st w with
            | some f =>
              obtain ⟨pc', ls', st', w'⟩ := f
              have hk : xj_step X m i nx pc k st w = some (pc', k, st', w') ∧ ls' = l := by
                rw [xj_stf hB hC hD] at hs ⊢
                cases h9 : xj_step X m i nx pc [] st w with
                | none => rw [h9] at hs; cases hs
                | some f =>
                  rw [h9] at hs
                  simp only [Option.map_some, xj_rl, Option.some.injEq, Prod.mk.injEq] at hs
                  obtain ⟨e1, e2, e3⟩ := hs
                  refine ⟨?_, e2.symm⟩
                  simp only [Option.map_some, xj_rl, e1, e3]
              simp only [hs] at h
              simp only [hk.1]
              rw [hk.2] at h
              exact ih _ _ _ _ _ _ _ _ hle h
            | none =>
              have hk : xj_step X m i nx pc k st w = none := xj_ldn hB hC hD hs
              simp only [hs] at h
              simp only [hk]
              cases hi : xj_inv X m i st w with
              | some f =>
                obtain ⟨kd, y, av, rest⟩ := f
                simp only [hi] at h ⊢
                by_cases hc : d ≠ 0 ∧ xj_safe w.1.length l rest = true ∧ xj_one av = true
                · rw [if_pos hc] at h
                  rw [if_pos ⟨hc.1, xj_le_safe hle hc.2.1, hc.2.2⟩]
                  cases hr : xj_run X n (d - 1) y 0 (lv_args 0 av) [] w with
                  | none => simp [hr] at h
                  | some g =>
                    obtain ⟨o, w', c, z⟩ := g
                    cases o with
                    | inl v =>
                      simp only [hr] at h ⊢
                      obtain ⟨o2, w2, c2, z2, h1, h2⟩ := xj_add_some h
                      rw [ih _ _ _ _ _ _ _ _ hle h1, h2]
                      rfl
                    | inr q =>
                      simp only [hr] at h ⊢
                      cases hca : xj_ca X m pc q with
                      | none => simp [hca] at h
                      | some a =>
                        cases a with
                        | none => simp only [hca] at h ⊢; exact h
                        | some hh =>
                          simp only [hca] at h ⊢
                          by_cases hc2 : kd = 1 ∧ xj_wok w' = true
                          · rw [if_pos hc2] at h ⊢
                            obtain ⟨o2, w2, c2, z2, h1, h2⟩ := xj_add_some h
                            rw [ih _ _ _ _ _ _ _ _ hle h1, h2]
                            rfl
                          · rw [if_neg hc2] at h; cases h
                · rw [if_neg hc] at h; cases h
              | none =>
                simp only [hi] at h ⊢
                cases he : xj_end X m i st w with
                | some f => simp only [he] at h ⊢; exact h
                | none =>
                  simp only [he] at h ⊢
                  cases ht : xj_th X m pc with
                  | some q => simp only [ht] at h ⊢; exact h
                  | none =>
                    simp only [ht] at h ⊢
                    cases hm : xj_mk X m i st with
                    | none => simp [hm] at h
                    | some g =>
                      obtain ⟨sh, z, rest⟩ := g
                      simp only [hm] at h ⊢
                      by_cases hc : xj_safe w.1.length l rest = true ∧ xj_wok w = true
                      · rw [if_pos hc] at h
                        rw [if_pos ⟨xj_le_safe hle hc.1, hc.2⟩]
                        obtain ⟨o2, w2, c2, z2, h1, h2⟩ := xj_add_some h
                        rw [ih _ _ _ _ _ _ _ _ hle h1, h2]
                        rfl
                      · rw [if_neg hc] at h; cases h
          · have hD2 : ∃ k z, i = .iinc k z := Classical.byContradiction fun h9 => hD fun k z e => h9 ⟨k, z, e⟩
            obtain ⟨kk, z, rfl⟩ := hD2
            obtain ⟨e1, e2, e3, e4⟩ := xj_oD (X := X) (m := m) (nx := nx) (pc := pc) (ls := l) (st := st) (w := w) (k := kk) (z := z) rfl
            obtain ⟨g1, -, -, -⟩ := xj_oD (X := X) (m := m) (nx := nx) (pc := pc) (ls := k) (st := st) (w := w) (k := kk) (z := z) rfl
            rw [e1, e2, e3, e4] at h
            rw [g1, e2, e3, e4]
            unfold xj_sD at h ⊢
            simp only at h ⊢
            cases hl : l.lookup kk with
            | none =>
              simp only [hl] at h
              cases ht : xj_th X m pc with
              | none => simp [ht] at h
              | some q => obtain ⟨ix, nx9, h9⟩ := hth _ _ _ ht; rw [hcd] at h9; cases h9
            | some v =>
              simp only [hl, hle.1 _ _ hl] at h ⊢
              cases v with
              | int x => exact ih _ _ _ _ _ _ _ _ (xj_le_st hle (Or.inl ⟨_, rfl⟩)) h
              | _ =>
                simp only at h
                cases ht : xj_th X m pc with
                | none => simp [ht] at h
                | some q => obtain ⟨ix, nx9, h9⟩ := hth _ _ _ ht; rw [hcd] at h9; cases h9
        · cases hC2 : xj_store i with
          | none => exact absurd hC2 hC
          | some q =>
            obtain ⟨e1, e2, e3, e4⟩ := xj_oC (X := X) (m := m) (nx := nx) (pc := pc) (ls := l) (st := st) (w := w) hC2
            obtain ⟨g1, -, -, -⟩ := xj_oC (X := X) (m := m) (nx := nx) (pc := pc) (ls := k) (st := st) (w := w) hC2
            obtain ⟨b, kk⟩ := q
            rw [e1, e2, e3, e4] at h
            rw [g1, e2, e3, e4]
            unfold xj_sC at h ⊢
            rw [hC2] at h ⊢
            cases st with
            | nil => exact h
            | cons v rest =>
              simp only at h ⊢
              by_cases hv : xj_sort b v = true
              · rw [if_pos hv] at h ⊢
                refine ih _ _ _ _ _ _ _ _ (xj_le_st hle ?_) h
                cases b <;> cases v <;> first | exact Or.inl ⟨_, rfl⟩ | exact Or.inr ⟨_, rfl⟩ | cases hv
              · rw [if_neg hv] at h ⊢
                exact h
      · cases hB2 : xj_load i with
        | none => exact absurd hB2 hB
        | some q =>
          obtain ⟨e1, e2, e3, e4⟩ := xj_oB (X := X) (m := m) (nx := nx) (pc := pc) (ls := l) (st := st) (w := w) hB2
          obtain ⟨g1, -, -, -⟩ := xj_oB (X := X) (m := m) (nx := nx) (pc := pc) (ls := k) (st := st) (w := w) hB2
          obtain ⟨b, kk⟩ := q
          have hnt : xj_th X m pc = none := by
            cases ht : xj_th X m pc with
            | none => rfl
            | some q =>
              obtain ⟨ix, nx9, h9⟩ := hth _ _ _ ht
              rw [hcd] at h9
              cases h9
              cases hB2
          rw [e1, e2, e3, e4] at h
          rw [g1, e2, e3, e4]
          unfold xj_sB at h ⊢
          rw [hB2] at h ⊢
          simp only at h ⊢
          cases hl : l.lookup kk with
          | none => simp [hl, hnt] at h
          | some v =>
            simp only [hl, hle.1 _ _ hl] at h ⊢
            by_cases hv : xj_sort b v = true
            · rw [if_pos hv] at h ⊢
              exact ih _ _ _ _ _ _ _ _ hle h
            · rw [if_neg hv] at h
              simp [hnt] at h
def xj_keep (ks : List Nat) (ls : List (Nat × Value)) : List (Nat × Value) := ks.filterMap fun k => (ls.lookup k).map fun v => (k, v)
theorem xj_keep_lk {ls : List (Nat × Value)} {i : Nat} {v : Value} : ∀ {ks : List Nat}, (xj_keep ks ls).lookup i = some v → ls.lookup i = some v := by
  intro ks
  induction ks with
  | nil => intro h; cases h
  | cons a r ih =>
    intro h
    unfold xj_keep at h ih
    cases hl : ls.lookup a with
    | none => simp only [List.filterMap_cons, hl, Option.map_none] at h; exact ih h
    | some u =>
      simp only [List.filterMap_cons, hl, Option.map_some, List.lookup_cons] at h
      by_cases e : i = a
      · subst e
        simp only [beq_self_eq_true, Option.some.injEq] at h
        rw [hl, h]
      · have e2 : (i == a) = false := by simpa using e
        simp only [e2] at h
        exact ih h
theorem xj_E.loc {d : Nat} {P : (Option Value ⊕ Nat) → xj_W → Nat → Nat → Prop} (ks : List Nat) (hth : ∀ m pc q, xj_th X m pc = some q → ∃ ix nx, xj_cd X m pc = some (.new ix, nx))
    (hk : ls.all (xj_kp (xj_keep ks ls)) = true) (h : xj_E X d m pc (xj_keep ks ls) st w P) : xj_E X d m pc ls st w P := by
  obtain ⟨n, o, w', c, z, h1, h2⟩ := h
  have hk2 := List.all_eq_true.mp hk
  refine ⟨n, o, w', c, z, xj_run_le hth n d m pc _ ls st w _ ⟨fun i v hi => xj_keep_lk hi, hk2, ?_⟩ h1, h2⟩
  intro q hq
  obtain ⟨a, -, ha⟩ := List.mem_filterMap.mp hq
  cases hl : ls.lookup a with
  | none => rw [hl] at ha; cases ha
  | some v =>
    rw [hl] at ha
    simp only [Option.map_some, Option.some.injEq] at ha
    subst ha
    exact xj_kp_cat (hk2 _ (xj_lk_mem hl))
end XLOC
