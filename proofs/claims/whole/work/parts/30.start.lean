/-! what holds at the law's start -/
theorem xcm_in {w : Jvm.Cond} (h : w ∈ xcm) : w ∈ lw_tbl := (List.mem_filter.mp h).1
abbrev xgiven : Jvm.Cond := Jvm.Cond.and given_1 narrow_1
theorem xsl_in : xsl.all (fun q => decide (Jvm.Cond.stringRef q.1 q.2.1 q.2.2 ∈ lw_tbl)) = true := by decide +kernel
set_option maxRecDepth 100000 in
theorem xsl_ex : xsl.all (fun q => decide (Jvm.Cond.exactly (.string q.1 q.2.1) "java/lang/String" ∈ flatC xgiven)) = true := by decide +kernel
set_option maxRecDepth 100000 in
theorem xnc_in : xnc.all (fun q => decide (Jvm.Cond.not (.castable q.1 q.2) ∈ flatC xgiven)) = true := by decide +kernel
set_option maxRecDepth 100000 in
theorem xst_in : ∀ j, j < 10 → Jvm.Cond.eq (.elem (.static "CaseDesk" "STATE_AFTER" "[I") (.int (Int32.ofNat j))) (.int (xst j)) ∈ flatC xgiven := by decide +kernel
set_option maxRecDepth 100000 in
theorem xst_len : Jvm.Cond.eq (.length (.static "CaseDesk" "STATE_AFTER" "[I")) (.int 10) ∈ flatC xgiven ∧ Jvm.Cond.arrayOf (.static "CaseDesk" "STATE_AFTER" "[I") .int ∈ flatC xgiven ∧ Jvm.Cond.isRef (.static Bundle.tN "UNASSIGNED_STACK" Bundle.steD) ∈ flatC xgiven ∧ Jvm.Cond.isRef (.static Bundle.tN "SUPPRESSED_SENTINEL" Bundle.listD) ∈ flatC xgiven := by decide +kernel
theorem xstat : Jvm.Cond.laysStatic "CaseDesk" "STATE_AFTER" "[I" ∈ lw_tbl ∧ Jvm.Cond.initialized "CaseDesk" ∈ lw_tbl ∧ Jvm.Cond.laysStatic Bundle.tN "UNASSIGNED_STACK" Bundle.steD ∈ lw_tbl ∧ Jvm.Cond.laysStatic Bundle.tN "SUPPRESSED_SENTINEL" Bundle.listD ∈ lw_tbl ∧ Jvm.Cond.initialized Bundle.tN ∈ lw_tbl := by decide +kernel
theorem xinst : Jvm.Cond.instantiable "CaseDesk$Life" 11 ∈ lw_tbl ∧ Jvm.Cond.instantiable "CaseDesk$Plan" 14 ∈ lw_tbl ∧ Jvm.Cond.instantiable "CaseDesk" 5 ∈ lw_tbl ∧ Jvm.Cond.instantiable "CaseDeskModel" 43 ∈ lw_tbl ∧ Jvm.Cond.arrayClass .int ∈ lw_tbl ∧ Jvm.Cond.arrayClass .boolean ∈ lw_tbl ∧ Jvm.Cond.arrayClass .long ∈ lw_tbl := by decide +kernel
theorem xFx0 {s : State} {b L : Nat} {xs : Nat → Int32} (hts : ∀ w ∈ lw_tbl, w.before #[Value.ref b] s = true) (hX : va_X b L xs s s.heap) (hbl : b < s.heap.size) (hg : xgiven.before #[Value.ref b] s = true) :
    ∃ (D : va_G) (cA : FieldType → ClassId) (ad : Nat → Nat), ad 1000 = b ∧ xj_Fx (xX L xs) D xcl cA (fun q => s.heap.size ≤ q) xwk xsl xnc ad s s.heap := by
  have hs := flat_of_before _ hg
  have hA : ∀ a : Nat, a < s.heap.size → ¬ (fun q => s.heap.size ≤ q) a := fun a h z => Nat.lt_irrefl _ (Nat.lt_of_lt_of_le h z)
  obtain ⟨n1, n2, n3, n4, n5, n6, n7⟩ := xinst
  obtain ⟨s1, s2, s3, s4, s5⟩ := xstat
  obtain ⟨l1, l2, l3, l4⟩ := xst_len
  obtain ⟨c0, i0, k0⟩ := u_known hts (fun w h => xcm_in (xcl_0a w h)) (hts _ n1)
  obtain ⟨c1, i1, k1⟩ := u_known hts (fun w h => xcm_in (xcl_1a w h)) (hts _ n2)
  obtain ⟨c2, i2, k2⟩ := u_known hts (fun w h => xcm_in (xcl_2a w h)) (hts _ n3)
  obtain ⟨c3, i3, k3⟩ := u_known hts (fun w h => xcm_in (xcl_3a w h)) (hts _ n4)
  obtain ⟨a0, ka0, m0, f0, g0, h0⟩ := Cond.arrayClass_spec (hts _ n5)
  obtain ⟨a1, ka1, m1, f1, g1, h1⟩ := Cond.arrayClass_spec (hts _ n6)
  obtain ⟨a2, ka2, m2, f2, g2, h2⟩ := Cond.arrayClass_spec (hts _ n7)
  have hlen : (Term.length (.static "CaseDesk" "STATE_AFTER" "[I")).eval #[Value.ref b] s none [] s = some (.int (Int32.ofNat 10)) := va_eqt (hs _ l1)
  obtain ⟨t, ht, hT⟩ := va_Tof (N := 10) (f := fun j => .int (xst j)) (by decide) (hs _ l2) hlen (fun j hj => va_eqt (hs _ (xst_in j hj))) hA
  refine ⟨(fun c => match c with | 0 => c0 | 1 => c1 | 2 => c2 | _ => c3, fun c => match c with | 0 => i0 | 1 => i1 | 2 => i2 | _ => i3), fun ty => match ty with | .int => a0 | .boolean => a1 | .long => a2 | _ => 0, fun i => if i = 1000 then b else if i = 1001 then t else 0, rfl, ⟨?_, ?_⟩, ?_, ?_, ?_, ?_, ?_, ?_, ?_⟩
  · intro c q hq
    match c, hq with
    | 0, hq => cases hq; exact k0
    | 1, hq => cases hq; exact k1
    | 2, hq => cases hq; exact k2
    | 3, hq => cases hq; exact k3
    | n + 4, hq => cases hq
  · intro k q hq
    match k, hq with
    | 0, hq => cases hq; exact ⟨fun n z => ⟨fun k h => (by cases h), ka0, g0, m0, h0⟩, f0⟩
    | 1, hq => cases hq; exact ⟨fun n z => ⟨fun k h => (by cases h), ka1, g1, m1, h1⟩, f1⟩
    | 2, hq => cases hq; exact ⟨fun n z => ⟨fun k h => (by cases h), ka2, g2, m2, h2⟩, f2⟩
    | n + 3, hq => cases hq
  · intro a n f h
    have h : xgv L xs a = some (n, f) := h
    unfold xgv at h
    cases hb : Nat.beq a 1000 with
    | true =>
      have e := Nat.eq_of_beq_eq_true hb
      subst e
      cases h
      obtain ⟨scr, q1, q2, q3, q4, q5⟩ := hX
      exact ⟨scr, q1, q2, q3, Nat.le_of_eq q4.symm, by rw [q4], q5, hA b hbl⟩
    | false =>
      rw [hb] at h
      obtain ⟨rfl, h⟩ := xj_beq (show cond (Nat.beq a 1001) (some (10, xst)) none = some (n, f) from h)
      cases h
      exact hT
  · exact va_Zof (hts _ s1) (hts _ s2) ht hA
  · exact fun w hw => va_Nw.of (xwk_ok w hw).1 (hts _ (xwk_in w hw))
  · exact vx_Zqof (hts _ s3) (hts _ s5) (hs _ l3) hA
  · exact vx_Zqof (hts _ s4) (hts _ s5) (hs _ l4) hA
  · intro q hq
    have e1 := of_decide_eq_true (List.all_eq_true.mp xsl_in q hq)
    have e2 := of_decide_eq_true (List.all_eq_true.mp xsl_ex q hq)
    obtain ⟨a, c, cA, kA, q1, -⟩ := Cond.exactly_spec (args := #[Value.ref b]) (first := s) (o := none) (s := s) (idx := []) (t := .string q.1 q.2.1) (cls := "java/lang/String") (hs _ e2)
    exact ⟨a, vk_R.of (hts _ e1) q1⟩
  · intro q hq
    exact va_Nc.of (hs _ (of_decide_eq_true (List.all_eq_true.mp xnc_in q hq)))
