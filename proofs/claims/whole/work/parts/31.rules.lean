/-! rows for runs of our machine: branches, arrays -/
section XR
variable {X : xj_T} {d m pc nx a b c n : Nat} {ls : List (Nat × Value)} {st r : List Value} {w : xj_W} {P : (Option Value ⊕ Nat) → xj_W → Nat → Nat → Prop} {x y j : Int32}
theorem xj_E.b_eq (ht : x = y → xj_E X d m a ls st w P) (hf : ¬ x = y → xj_E X d m b ls st w P) : xj_E X d m (if xj_cmp .eq x y = true then a else b) ls st w P := xj_E.ite (fun h => ht (of_decide_eq_true h)) (fun h => hf (fun q => h (decide_eq_true q)))
theorem xj_E.b_ne (ht : x ≠ y → xj_E X d m a ls st w P) (hf : ¬ x ≠ y → xj_E X d m b ls st w P) : xj_E X d m (if xj_cmp .ne x y = true then a else b) ls st w P := xj_E.ite (fun h => ht (of_decide_eq_true h)) (fun h => hf (fun q => h (decide_eq_true q)))
theorem xj_E.b_lt (ht : x < y → xj_E X d m a ls st w P) (hf : ¬ x < y → xj_E X d m b ls st w P) : xj_E X d m (if xj_cmp .lt x y = true then a else b) ls st w P := xj_E.ite (fun h => ht (of_decide_eq_true h)) (fun h => hf (fun q => h (decide_eq_true q)))
theorem xj_E.b_ge (ht : y ≤ x → xj_E X d m a ls st w P) (hf : ¬ y ≤ x → xj_E X d m b ls st w P) : xj_E X d m (if xj_cmp .ge x y = true then a else b) ls st w P := xj_E.ite (fun h => ht (of_decide_eq_true h)) (fun h => hf (fun q => h (decide_eq_true q)))
theorem xj_E.b_gt (ht : y < x → xj_E X d m a ls st w P) (hf : ¬ y < x → xj_E X d m b ls st w P) : xj_E X d m (if xj_cmp .gt x y = true then a else b) ls st w P := xj_E.ite (fun h => ht (of_decide_eq_true h)) (fun h => hf (fun q => h (decide_eq_true q)))
theorem xj_E.b_le (ht : x ≤ y → xj_E X d m a ls st w P) (hf : ¬ x ≤ y → xj_E X d m b ls st w P) : xj_E X d m (if xj_cmp .le x y = true then a else b) ls st w P := xj_E.ite (fun h => ht (of_decide_eq_true h)) (fun h => hf (fun q => h (decide_eq_true q)))
theorem xj_E.iald (hcd : xj_cd X m pc = some (.iaload, nx)) (hsh : w.1[c]? = some (.inl (.int, n))) (hin : vp_in j n) (k : xj_E X d m nx ls (.int (w.2.1 c j.toNatClampNeg) :: r) w P) : xj_E X d m pc ls (.int j :: .ref c :: r) w P := by
  refine xj_E.one hcd ?_ k
  have e : xj_sL X .iaload nx ls (.int j :: .ref c :: r) w = some (nx, ls, .int (w.2.1 c j.toNatClampNeg) :: r, w) := by
    simp only [xj_sL, hsh]
    exact if_neg hin
  show xj_or (xj_sL X .iaload nx ls (.int j :: .ref c :: r) w) _ = _
  rw [e]; rfl
theorem xj_E.igiv {f : Nat → Int32} (hcd : xj_cd X m pc = some (.iaload, nx)) (hsh : w.1[c]? = none) (hg : xj_gv X c = some (n, f)) (hin : vp_in j n) (k : xj_E X d m nx ls (.int (f j.toNatClampNeg) :: r) w P) : xj_E X d m pc ls (.int j :: .ref c :: r) w P := by
  refine xj_E.one hcd ?_ k
  have e : xj_sL X .iaload nx ls (.int j :: .ref c :: r) w = some (nx, ls, .int (f j.toNatClampNeg) :: r, w) := by
    simp only [xj_sL, hsh, hg]
    exact if_neg hin
  show xj_or (xj_sL X .iaload nx ls (.int j :: .ref c :: r) w) _ = _
  rw [e]; rfl
theorem xj_E.bald (hcd : xj_cd X m pc = some (.baload, nx)) (hsh : w.1[c]? = some (.inl (.boolean, n))) (hin : vp_in j n) (k : xj_E X d m nx ls (.int (w.2.1 c j.toNatClampNeg) :: r) w P) : xj_E X d m pc ls (.int j :: .ref c :: r) w P := by
  refine xj_E.one hcd ?_ k
  have e : xj_sL X .baload nx ls (.int j :: .ref c :: r) w = some (nx, ls, .int (w.2.1 c j.toNatClampNeg) :: r, w) := by
    simp only [xj_sL, hsh]
    exact if_neg hin
  show xj_or (xj_sL X .baload nx ls (.int j :: .ref c :: r) w) _ = _
  rw [e]; rfl
theorem xj_E.iast (hcd : xj_cd X m pc = some (.iastore, nx)) (hsh : w.1[c]? = some (.inl (.int, n))) (hin : vp_in j n) (k : xj_E X d m nx ls r (w.1, xj_set w.2.1 c j.toNatClampNeg x, w.2.2) P) : xj_E X d m pc ls (.int x :: .int j :: .ref c :: r) w P := by
  refine xj_E.one hcd ?_ k
  have e : xj_sL X .iastore nx ls (.int x :: .int j :: .ref c :: r) w = some (nx, ls, r, (w.1, xj_set w.2.1 c j.toNatClampNeg x, w.2.2)) := by
    simp only [xj_sL, hsh]
    exact if_neg hin
  show xj_or (xj_sL X .iastore nx ls (.int x :: .int j :: .ref c :: r) w) _ = _
  rw [e]; rfl
theorem xj_E.bast (hcd : xj_cd X m pc = some (.bastore, nx)) (hsh : w.1[c]? = some (.inl (.boolean, n))) (hin : vp_in j n) (k : xj_E X d m nx ls r (w.1, xj_set w.2.1 c j.toNatClampNeg (x &&& 1), w.2.2) P) : xj_E X d m pc ls (.int x :: .int j :: .ref c :: r) w P := by
  refine xj_E.one hcd ?_ k
  have e : xj_sL X .bastore nx ls (.int x :: .int j :: .ref c :: r) w = some (nx, ls, r, (w.1, xj_set w.2.1 c j.toNatClampNeg (x &&& 1), w.2.2)) := by
    simp only [xj_sL, hsh]
    exact if_neg hin
  show xj_or (xj_sL X .bastore nx ls (.int x :: .int j :: .ref c :: r) w) _ = _
  rw [e]; rfl
/-- a call whose callee is known to return, with no new cell -/
def xj_Ri (S : List xj_S) (K : Int32 → (Nat → Nat → Int32) → (Nat → Nat → Int64) → Prop) : (Option Value ⊕ Nat) → xj_W → Nat → Nat → Prop := fun o w c z => ∃ r σ τ, o = .inl (some (.int r)) ∧ w = (S, σ, τ) ∧ c = 0 ∧ z = 0 ∧ K r σ τ
def xj_Rv (S : List xj_S) (K : (Nat → Nat → Int32) → (Nat → Nat → Int64) → Prop) : (Option Value ⊕ Nat) → xj_W → Nat → Nat → Prop := fun o w c z => ∃ σ τ, o = .inl none ∧ w = (S, σ, τ) ∧ c = 0 ∧ z = 0 ∧ K σ τ
variable {i : Instr} {kd u : Nat} {av rest : List Value} {S : List xj_S}
theorem xj_E.calli (hcd : xj_cd X m pc = some (i, nx)) (hs : xj_step X m i nx pc ls st w = none) (hi : xj_inv X m i st w = some (kd, u, av, rest)) (hsf : xj_safe w.1.length ls rest = true) (hon : xj_one av = true)
    (h : xj_E X d u 0 (lv_args 0 av) [] w (xj_Ri S (fun v σ τ => xj_E X (d + 1) m nx ls (.int v :: rest) (S, σ, τ) P))) : xj_E X (d + 1) m pc ls st w P := by
  refine xj_E.call hcd hs hi hsf hon (h.mono ?_)
  intro o w' c z ⟨v, σ, τ, ho, hw, hc, hz, hk⟩
  subst ho; subst hw; subst hc; subst hz
  exact hk.mono (fun o2 w2 c2 z2 h2 => by rw [Nat.zero_add, Nat.zero_add]; exact h2)
theorem xj_E.callv (hcd : xj_cd X m pc = some (i, nx)) (hs : xj_step X m i nx pc ls st w = none) (hi : xj_inv X m i st w = some (kd, u, av, rest)) (hsf : xj_safe w.1.length ls rest = true) (hon : xj_one av = true)
    (h : xj_E X d u 0 (lv_args 0 av) [] w (xj_Rv S (fun σ τ => xj_E X (d + 1) m nx ls rest (S, σ, τ) P))) : xj_E X (d + 1) m pc ls st w P := by
  refine xj_E.call hcd hs hi hsf hon (h.mono ?_)
  intro o w' c z ⟨σ, τ, ho, hw, hc, hz, hk⟩
  subst ho; subst hw; subst hc; subst hz
  exact hk.mono (fun o2 w2 c2 z2 h2 => by rw [Nat.zero_add, Nat.zero_add]; exact h2)
end XR
