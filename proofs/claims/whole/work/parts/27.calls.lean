/-! calls, new, throws, catches: the tables have their words -/
theorem xcls0 : ∀ mi, mi < 121 → (xyN mi).cls = xcn (xow mi) ∧ (xin mi = true → (xyN mi).name = "<init>") := by decide +kernel
theorem xlt {mi : Nat} (h : xow mi ≠ 9) : mi < 121 := by
  rcases Nat.lt_or_ge mi 121 with h9 | h9
  · exact h9
  · exfalso
    apply h
    unfold xow
    have : Nat.blt mi 121 = false := by
      cases hb : Nat.blt mi 121 with
      | false => rfl
      | true => have := Nat.le_of_ble_eq_true hb; omega
    rw [this]
    rfl
theorem xcls {mi : Nat} (h : xow mi ≠ 9) : (xyN mi).cls = xcn (xow mi) := (xcls0 mi (xlt h)).1
abbrev xwd (y : Nat) : Jvm.Cond := xj_wd (xX 0 (fun _ => 0)) xyN xbt xmx xhh y
def xGMb (own : String) (q : Nat × Nat × Nat × Nat) : Bool :=
  (decide (¬ q.2.1 < 3) || ((plainFor (xyN q.2.2.1) && (decide (q.2.1 = 0 ∧ xhh q.2.2.1 = []) || plainName (xyN q.2.2.1).cls)) && decide (xmx q.2.2.1 ≤ 29) && decide (q.2.2.2 + 1 ≤ xmx q.2.2.1 + (if q.2.1 = 0 then 1 else 0)) && decide (xwd q.2.2.1 ∈ xcm) && decide (Jvm.Cond.initialized (xyN q.2.2.1).cls ∈ xcm) && decide ((xyN q.2.2.1).cls ≠ "java/lang/invoke/MethodHandle") && decide ((xyN q.2.2.1).cls ≠ "java/lang/invoke/VarHandle") && decide ((parseMethodDescriptor (xyN q.2.2.1).desc).map (fun d => d.parameters.length) = some q.2.2.2) &&
    (decide (q.2.1 ≠ 0) || decide (Jvm.Cond.static (xyN q.2.2.1) ∈ xcm)) &&
    (decide (q.2.1 ≠ 1) || (decide (xhh q.2.2.1 = []) && decide (Jvm.Cond.instanceMethod (xyN q.2.2.1) ∈ xcm) && decide (Jvm.Cond.selects (xyN q.2.2.1).cls (xyN q.2.2.1) (xyN q.2.2.1) ∈ xcm) && decide ((xcl[(xmt q.2.2.1).1]?).map (fun c => c.1) = some (xyN q.2.2.1).cls))) &&
    (decide (q.2.1 ≠ 2) || (decide (xhh q.2.2.1 = []) && decide ((xyN q.2.2.1).name = "<init>") && decide (Jvm.Cond.instanceMethod (xyN q.2.2.1) ∈ xcm) && decide ((xmt q.2.2.1).2 = none))) &&
    (decide (Jvm.Cond.methodLink own q.1 (xyN q.2.2.1) ∈ xcm) || (decide (q.2.1 ≠ 1) && decide (xhh q.2.2.1 = []) && decide (Jvm.Cond.methodLinkNest own q.1 (xyN q.2.2.1) "CaseDesk" ∈ xwk))))) &&
  (decide (q.2.1 ≠ 9) || (decide (Jvm.Cond.methodLink own q.1 Lib.objectInit ∈ xcm) && decide (Jvm.Cond.instanceMethod Lib.objectInit ∈ xcm) && decide (Jvm.Cond.code Lib.objectInit ⟨#[0xb1]⟩ 1 none ∈ xcm))) &&
  (decide (q.2.1 ≠ 8) || (decide (Jvm.Cond.methodLink own q.1 arraycopyName ∈ xcm) && decide (Jvm.Cond.native arraycopyName ∈ xcm) && decide (Jvm.Cond.static arraycopyName ∈ xcm) && decide (Jvm.Cond.initialized "java/lang/System" ∈ xcm)))
theorem xGMb_ok {own : String} {ix kd y k : Nat} (h : xGMb own (ix, kd, y, k) = true) (hk : kd < 3) {mi L : Nat} {xs : Nat → Int32} (ho : (xyN mi).cls = own) : xj_GM (xX L xs) xyN xbt xmx xhh xcm xcl xwk mi ix kd y k := by
  unfold xGMb at h
  simp only [Bool.and_eq_true] at h
  obtain ⟨⟨h, -⟩, -⟩ := h
  rw [Bool.or_eq_true] at h
  rcases h with h | h
  · exact absurd hk (of_decide_eq_true h)
  · simp only [Bool.and_eq_true] at h
    obtain ⟨⟨⟨⟨⟨⟨⟨⟨⟨⟨⟨a1, a2⟩, a3⟩, a4⟩, a5⟩, a6⟩, a7⟩, a8⟩, a9⟩, a10⟩, a11⟩, a12⟩ := h
    simp only [Bool.and_eq_true, Bool.or_eq_true, decide_eq_true_eq] at a1
    refine ⟨⟨a1.1, fun e => a1.2.resolve_left (fun z => e.elim (fun u => u z.1) (fun u => u z.2))⟩, of_decide_eq_true a2, of_decide_eq_true a3, of_decide_eq_true a4, of_decide_eq_true a5, ⟨of_decide_eq_true a6, of_decide_eq_true a7⟩, of_decide_eq_true a8, fun e => ?_, fun e => ?_, fun e => ?_, ?_⟩
    · rw [Bool.or_eq_true] at a9
      rcases a9 with a9 | a9
      · exact absurd e (of_decide_eq_true a9)
      · exact of_decide_eq_true a9
    · rw [Bool.or_eq_true] at a10
      rcases a10 with a10 | a10
      · exact absurd e (of_decide_eq_true a10)
      · simp only [Bool.and_eq_true] at a10
        obtain ⟨⟨⟨b1, b2⟩, b3⟩, b4⟩ := a10
        have b4 := of_decide_eq_true b4
        obtain ⟨⟨C, T, N⟩, hc, he⟩ := Option.map_eq_some_iff.mp b4
        exact ⟨of_decide_eq_true b1, of_decide_eq_true b2, of_decide_eq_true b3, T, N, by rw [← he]; exact hc⟩
    · rw [Bool.or_eq_true] at a11
      rcases a11 with a11 | a11
      · exact absurd e (of_decide_eq_true a11)
      · simp only [Bool.and_eq_true] at a11
        obtain ⟨⟨⟨b1, b2⟩, b3⟩, b4⟩ := a11
        exact ⟨of_decide_eq_true b1, of_decide_eq_true b2, of_decide_eq_true b3, of_decide_eq_true b4⟩
    · rw [ho]
      rw [Bool.or_eq_true] at a12
      rcases a12 with a12 | a12
      · exact Or.inl (of_decide_eq_true a12)
      · simp only [Bool.and_eq_true] at a12
        obtain ⟨⟨b1, b2⟩, b3⟩ := a12
        exact Or.inr ⟨of_decide_eq_true b1, of_decide_eq_true b2, "CaseDesk", of_decide_eq_true b3⟩
theorem xGMb_9 {own : String} {ix y k : Nat} (h : xGMb own (ix, 9, y, k) = true) : Jvm.Cond.methodLink own ix Lib.objectInit ∈ xcm ∧ Jvm.Cond.instanceMethod Lib.objectInit ∈ xcm ∧ Jvm.Cond.code Lib.objectInit ⟨#[0xb1]⟩ 1 none ∈ xcm := by
  unfold xGMb at h
  simp only [Bool.and_eq_true] at h
  obtain ⟨⟨-, h⟩, -⟩ := h
  rw [Bool.or_eq_true] at h
  rcases h with h | h
  · exact absurd rfl (of_decide_eq_true h)
  · simp only [Bool.and_eq_true] at h
    exact ⟨of_decide_eq_true h.1.1, of_decide_eq_true h.1.2, of_decide_eq_true h.2⟩
theorem xGMb_8 {own : String} {ix y k : Nat} (h : xGMb own (ix, 8, y, k) = true) : Jvm.Cond.methodLink own ix arraycopyName ∈ xcm ∧ Jvm.Cond.native arraycopyName ∈ xcm ∧ Jvm.Cond.static arraycopyName ∈ xcm ∧ Jvm.Cond.initialized "java/lang/System" ∈ xcm := by
  unfold xGMb at h
  simp only [Bool.and_eq_true] at h
  obtain ⟨-, h⟩ := h
  rw [Bool.or_eq_true] at h
  rcases h with h | h
  · exact absurd rfl (of_decide_eq_true h)
  · simp only [Bool.and_eq_true] at h
    exact ⟨of_decide_eq_true h.1.1.1, of_decide_eq_true h.1.1.2, of_decide_eq_true h.1.2, of_decide_eq_true h.2⟩
