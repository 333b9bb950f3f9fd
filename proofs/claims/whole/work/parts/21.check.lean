/-! our tables, and what is checked of them by program -/
def xj_chkR (cc : ByteArray) (nL : Nat) (tab : Nat → Option (Instr × Nat)) (lo n : Nat) : Bool := (List.range n).all fun j => match tab (lo + j) with
  | none => true
  | some (i, nx) => match decode cc (lo + j) with
    | .ok (k, ln) => decide (k = i) && xj_fit nL i (lo + j) nx ln
    | .error _ => false
theorem xj_chkR_ok {cc : ByteArray} {nL lo n : Nat} {tab : Nat → Option (Instr × Nat)} (h : xj_chkR cc nL tab lo n = true) {pc nx : Nat} {i : Instr} (h1 : lo ≤ pc) (h2 : pc < lo + n) (ht : tab pc = some (i, nx)) : xj_dec cc nL pc i nx := by
  have h3 := List.all_eq_true.mp h (pc - lo) (List.mem_range.mpr (by omega))
  have e : lo + (pc - lo) = pc := by omega
  simp only [e, ht] at h3
  split at h3
  · rename_i j ln hd
    simp only [Bool.and_eq_true, decide_eq_true_eq] at h3
    obtain ⟨rfl, h4⟩ := h3
    exact ⟨ln, hd, h4⟩
  · cases h3
def xj_chk (cc : ByteArray) (nL : Nat) (tab : Nat → Option (Instr × Nat)) (len : Nat) : Bool := (List.range len).all fun pc => match tab pc with
  | none => true
  | some (i, nx) => match decode cc pc with
    | .ok (j, ln) => decide (j = i) && xj_fit nL i pc nx ln
    | .error _ => false
theorem xj_chk_ok {cc : ByteArray} {nL len : Nat} {tab : Nat → Option (Instr × Nat)} (h : xj_chk cc nL tab len = true) (hb : ∀ pc, len ≤ pc → tab pc = none) {pc nx : Nat} {i : Instr} (ht : tab pc = some (i, nx)) : xj_dec cc nL pc i nx := by
  have hl : pc < len := by
    rcases Nat.lt_or_ge pc len with h9 | h9
    · exact h9
    · rw [hb pc h9] at ht; cases ht
  have h1 := List.all_eq_true.mp h pc (List.mem_range.mpr hl)
  simp only [ht] at h1
  split at h1
  · rename_i j ln hd
    simp only [Bool.and_eq_true, decide_eq_true_eq] at h1
    obtain ⟨rfl, h2⟩ := h1
    exact ⟨ln, hd, h2⟩
  · cases h1
theorem xj_cout {α : Type} {a : Option α} {pc len : Nat} (h : len ≤ pc) : cond (Nat.blt pc len) a none = none := by
  have : Nat.blt pc len = false := by
    cases hb : Nat.blt pc len with
    | false => rfl
    | true => have := Nat.le_of_ble_eq_true hb; omega
  rw [this]; rfl
theorem xj_blt {α : Type} {m k : Nat} {a b : Option α} {v : α} (h : cond (Nat.blt m k) a b = some v) : (m < k ∧ a = some v) ∨ (k ≤ m ∧ b = some v) := by
  cases hb : Nat.blt m k with
  | true => rw [hb] at h; exact Or.inl ⟨Nat.le_of_ble_eq_true hb, h⟩
  | false =>
    rw [hb] at h
    refine Or.inr ⟨?_, h⟩
    rcases Nat.lt_or_ge m k with h9 | h9
    · have : Nat.blt m k = true := Nat.ble_eq_true_of_le h9
      rw [this] at hb; cases hb
    · exact h9
theorem xj_beq {α : Type} {m k : Nat} {a : Option α} {v : α} (h : cond (Nat.beq m k) a none = some v) : m = k ∧ a = some v := by
  cases hb : Nat.beq m k with
  | true => rw [hb] at h; exact ⟨Nat.eq_of_beq_eq_true hb, h⟩
  | false => rw [hb] at h; cases h
theorem xj_lku {α : Type} {k : Nat} {v : α} : ∀ {ls : List (Nat × α)}, ls.lookup k = some v → (k, v) ∈ ls
  | [], h => by simp at h
  | (a, b) :: r, h => by
    rw [List.lookup_cons] at h
    by_cases hk : (k == a) = true
    · simp only [hk] at h
      have e : k = a := by simpa using hk
      cases h
      subst e
      exact List.mem_cons_self
    · have e : (k == a) = false := by simpa using hk
      simp only [e] at h
      exact List.mem_cons_of_mem _ (xj_lku h)
