/-! stores, numbers, bits -/
theorem s_set (S : Nat → Nat → Int32) (c k : Nat) (x : Int32) (d : Nat) : xj_set S c k x d = if d = c then upd (S c) k x else S d := rfl
theorem s_setA (S : Nat → Nat → Int32) (c : Nat) (f : Nat → Int32) (d : Nat) : xj_setA S c f d = if d = c then f else S d := rfl
theorem u_at (f : Nat → Int32) (k : Nat) (x : Int32) (j : Nat) : upd f k x j = if j = k then x else f j := rfl
theorem i_nn {a : Int32} (h : 0 ≤ a) : ¬ a < 0 := by grind
theorem i_of {a : Int32} (h : 0 ≤ a) : ∃ j : Nat, j < 2 ^ 31 ∧ a = nI j := nI_of (i_nn h)
theorem ix_inj {a b : Int32} (ha : 0 ≤ a) (hb : 0 ≤ b) (h : a.toNatClampNeg = b.toNatClampNeg) : a = b := by
  obtain ⟨i, hi, rfl⟩ := i_of ha
  obtain ⟨j, hj, rfl⟩ := i_of hb
  rw [nI_clamp hi, nI_clamp hj] at h
  rw [h]
theorem ix_ne {a b : Int32} (ha : 0 ≤ a) (hb : 0 ≤ b) (h : a ≠ b) : a.toNatClampNeg ≠ b.toNatClampNeg := fun e => h (ix_inj ha hb e)
theorem ix_le {a b : Int32} (ha : 0 ≤ a) (h : a ≤ b) : a.toNatClampNeg ≤ b.toNatClampNeg := by
  have hb : 0 ≤ b := by grind
  obtain ⟨i, hi, rfl⟩ := i_of ha
  obtain ⟨j, hj, rfl⟩ := i_of hb
  rw [nI_clamp hi, nI_clamp hj]
  exact (nI_leI hi hj).1 h
theorem ix_lt {a b : Int32} (ha : 0 ≤ a) (h : a < b) : a.toNatClampNeg < b.toNatClampNeg := by
  have hb : 0 ≤ b := by grind
  obtain ⟨i, hi, rfl⟩ := i_of ha
  obtain ⟨j, hj, rfl⟩ := i_of hb
  rw [nI_clamp hi, nI_clamp hj]
  exact (nI_ltI hi hj).1 h
theorem ix_lt' {a b : Int32} (ha : 0 ≤ a) (hb : 0 ≤ b) (h : a.toNatClampNeg < b.toNatClampNeg) : a < b := by
  obtain ⟨i, hi, rfl⟩ := i_of ha
  obtain ⟨j, hj, rfl⟩ := i_of hb
  rw [nI_clamp hi, nI_clamp hj] at h
  exact (nI_ltI hi hj).2 h
theorem ix_1 {a m : Int32} (ha : 0 ≤ a) (h : a < m) : (a + 1).toNatClampNeg = a.toNatClampNeg + 1 := by
  have hb : 0 ≤ m := by grind
  obtain ⟨i, hi, rfl⟩ := i_of ha
  obtain ⟨j, hj, rfl⟩ := i_of hb
  have hij := (nI_ltI hi hj).1 h
  rw [nI_1, nI_clamp hi, nI_clamp (by omega)]
theorem v_in (n : Nat) (hn : n < 2 ^ 31) {a : Int32} (ha : 0 ≤ a) (h : a < nI n) : vp_in a n := by
  obtain ⟨j, hj, rfl⟩ := i_of ha
  exact vp_in_nI ((nI_ltI hj hn).1 h) hn
theorem v4 {a : Int32} (h0 : 0 ≤ a) (h1 : a < 4) : vp_in a 4 := v_in 4 (by decide) h0 h1
theorem v10 {a : Int32} (h0 : 0 ≤ a) (h1 : a < 10) : vp_in a 10 := v_in 10 (by decide) h0 h1
theorem v12 {a : Int32} (h0 : 0 ≤ a) (h1 : a < 12) : vp_in a 12 := v_in 12 (by decide) h0 h1
theorem v16 {a : Int32} (h0 : 0 ≤ a) (h1 : a < 16) : vp_in a 16 := v_in 16 (by decide) h0 h1
theorem v32 {a : Int32} (h0 : 0 ≤ a) (h1 : a < 32) : vp_in a 32 := v_in 32 (by decide) h0 h1
theorem v40 {a : Int32} (h0 : 0 ≤ a) (h1 : a < 40) : vp_in a 40 := v_in 40 (by decide) h0 h1
theorem v48 {a : Int32} (h0 : 0 ≤ a) (h1 : a < 48) : vp_in a 48 := v_in 48 (by decide) h0 h1
theorem i_t1 {u m : Int32} (h0 : 0 ≤ u) (h1 : u < m) : (u + 1).toInt = u.toInt + 1 := by
  obtain ⟨j, hj, rfl⟩ := i_of h0
  have h2 := Int32.lt_iff_toInt_lt.1 h1
  have h3 : m.toInt < 2 ^ 31 := Int32.toInt_lt m
  rw [nI_toInt hj] at h2
  rw [nI_1, nI_toInt (by omega), nI_toInt hj]
  omega
theorem l_ind (m : Int32) (B : Int) (hB : m.toInt ≤ B) (P : Nat → Int32 → Prop) (stop : ∀ n, P (n + 1) m) (step : ∀ n u, 0 ≤ u → u < m → P n (u + 1) → P (n + 1) u) : ∀ (n : Nat) (u : Int32), 0 ≤ u → u ≤ m → B < u.toInt + n → P n u := by
  intro n
  induction n with
  | zero =>
    intro u h0 h1 h
    have h2 := Int32.le_iff_toInt_le.1 h1
    exfalso
    omega
  | succ n ih =>
    intro u h0 h1 h
    by_cases h2 : u < m
    · have e := i_t1 h0 h2
      exact step n u h0 h2 (ih (u + 1) (by grind) (by grind) (by rw [e]; omega))
    · have e : u = m := by grind
      rw [e]
      exact stop n
theorem l_go (F : Nat) (m M : Int32) (h0 : 0 ≤ m) (hm : m ≤ M) (hM : M.toInt < F) (P : Nat → Int32 → Prop) (stop : ∀ n, P (n + 1) m) (step : ∀ n u, 0 ≤ u → u < m → P n (u + 1) → P (n + 1) u) : P F 0 := by
  refine l_ind m M.toInt (Int32.le_iff_toInt_le.1 hm) P stop step F 0 (by decide) h0 ?_
  have e : (0 : Int32).toInt = 0 := by decide
  omega
/-! bits -/
def xb (x : Int32) (i : Nat) : Bool := x.toBitVec.getLsbD i
theorem xb_ext {x y : Int32} (h : ∀ i, i < 32 → xb x i = xb y i) : x = y := Int32.toBitVec_inj.mp (BitVec.eq_of_getLsbD_eq (fun i hi => h i hi))
theorem xb_or (x y : Int32) (i : Nat) : xb (x ||| y) i = (xb x i || xb y i) := by unfold xb; rw [Int32.toBitVec_or, BitVec.getLsbD_or]
theorem xb_and (x y : Int32) (i : Nat) : xb (x &&& y) i = (xb x i && xb y i) := by unfold xb; rw [Int32.toBitVec_and, BitVec.getLsbD_and]
theorem xb_0 (i : Nat) : xb 0 i = false := BitVec.getLsbD_zero
theorem xb_1 : ∀ i, i < 32 → xb 1 i = decide (i = 0) := by decide +kernel
theorem xb_one : ∀ n, n < 32 → ∀ i, i < 32 → xb ((1 : Int32) <<< (nI n &&& 31)) i = decide (i = n) := by decide +kernel
theorem xb_sl : ∀ n, n < 32 → ((nI n &&& 31).toBitVec.smod 32).toNat = n := by decide +kernel
theorem xb_sr (n : Nat) (hn : n < 32) (x : Int32) : xb (x >>> (nI n &&& 31)) 0 = xb x n := by
  unfold xb
  rw [Int32.toBitVec_shiftRight]
  show (x.toBitVec.sshiftRight ((nI n &&& 31).toBitVec.smod 32).toNat).getLsbD 0 = _
  rw [xb_sl n hn, BitVec.getLsbD_sshiftRight]
  simp [hn]
theorem xb_and1 (y : Int32) : (y &&& 1) = 1 ↔ xb y 0 = true := by
  constructor
  · intro h
    have e := xb_and y 1 0
    rw [h, xb_1 0 (by decide)] at e
    simpa using e.symm
  · intro h
    apply xb_ext
    intro i hi
    rw [xb_and, xb_1 i hi]
    by_cases q : i = 0
    · subst q; simp [h]
    · simp [q]
theorem xb_test (n : Nat) (hn : n < 32) (x : Int32) : ((x >>> (nI n &&& 31)) &&& 1) = 1 ↔ xb x n = true := by
  rw [xb_and1, xb_sr n hn]
theorem xb_mask (n : Nat) (hn : n < 32) (x : Int32) : (x &&& ((1 : Int32) <<< (nI n &&& 31))) = 0 ↔ xb x n = false := by
  constructor
  · intro h
    have e := xb_and x ((1 : Int32) <<< (nI n &&& 31)) n
    rw [h, xb_one n hn n hn, xb_0] at e
    simpa using e.symm
  · intro h
    apply xb_ext
    intro i hi
    rw [xb_and, xb_one n hn i hi, xb_0]
    by_cases q : i = n
    · subst q; simp [h]
    · simp [q]
theorem pk_2 (s p : Nat) : nI s * 2 + nI p = nI (2 * s + p) := by
  have e : nI s * 2 = nI (s * 2) := pk_mul s 2
  rw [e, nI_add, Nat.mul_comm]
theorem pk_2' (s p : Nat) : 2 * nI s + nI p = nI (2 * s + p) := by
  have e : 2 * nI s = nI (2 * s) := pk_mul 2 s
  rw [e, nI_add]
