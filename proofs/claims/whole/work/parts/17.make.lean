/-! new cells; catches -/
/-- the words of a 'new' -/
def xj_GN (X : xj_T) (yN : Nat → MethodName) (cm : List Jvm.Cond) (cl : List vw_C) (mi ix ci : Nat) (fs : List Value) : Prop :=
  ∃ (C : String) (T : u_T) (N : Nat) (ty0 : Nat → FieldType) (gs : List Value), cl[ci]? = some (C, T, N) ∧ (∀ w ∈ u_ws C T N, w ∈ cm) ∧ (∀ k, k < N → parseFieldDescriptor (T k).2.2.1 = some (ty0 k)) ∧ Jvm.Cond.classLink (yN mi).cls ix C ∈ cm ∧ Jvm.Cond.instantiable C N ∈ cm ∧ Jvm.Cond.initialized C ∈ cm ∧ fs.length = N ∧
    (∀ ad', fs.mapIdx (xj_fv ad' (fun _ => 0)) = gs) ∧ ∀ j, j < N → defaultValue (ty0 j) = vp_V gs j
def xj_nxt (w : xj_W) (sh : xj_S) : xj_W := (w.1 ++ [sh], xj_setA w.2.1 w.1.length (fun _ => 0), fun j => if j = w.1.length then (fun _ => 0) else w.2.2 j)
section XJ8
variable {p : Program} {l : Launch} {e : Env} {R : Room} {s : State} {m : MethodId} {args : Array Value} {below : List Frame} {meth : Method} {c : Code} {H : Heap} {locs : List Loc} {cells slots : Nat} {Q : State → Prop}
variable {D : va_G} {cl : List vw_C} {cA : FieldType → ClassId} {A : Nat → Prop} {nL n mc ms pc d : Nat} {ad : Nat → Nat} {la : Array Slot} {rest st : List Value} {ls : List (Nat × Value)} {w : xj_W}
variable {X : xj_T} {yN : Nat → MethodName} {cm wk : List Jvm.Cond} {mi : Nat} {cc : ByteArray}
theorem xj_nxt_ne (w : xj_W) {j : Nat} (h : j ≠ w.1.length) : (fun j => if j = w.1.length then (fun _ => 0) else w.2.2 j : Nat → Nat → Int64) j = w.2.2 j := if_neg h
theorem xj_new {sh : xj_S} {z nx : Nat} {i : Instr} (hx : p.tables.exec = Jvm.exec) (hb : c.code = cc) (hown : s.vm.findClass (yN mi).cls = some m.cls) (hts : ∀ w ∈ cm, w.before args s = true) (hA : ∀ q, s.heap.size ≤ q → A q)
    (hK : va_K D cl (xj_ty cA) s) (hP : va_P D cl (xj_cw ad cA w) H) (hD : va_D A (xj_cw ad cA w)) (hS : va_S A s.heap H locs)
    (hGN : ∀ ix ci fs, xj_nw X mi ix = some (ci, fs) → xj_GN X yN cm cl mi ix ci fs)
    (hAr : Jvm.Cond.arrayClass .int ∈ cm ∧ Jvm.Cond.arrayClass .boolean ∈ cm ∧ Jvm.Cond.arrayClass .long ∈ cm)
    (hd : xj_dec cc nL pc i nx) (hk : xj_mk X mi i st = some (sh, z, rest)) (hw : xj_wok w = true) (hl : lv_has la nL (xj_cl ad ls)) (hsf : xj_safe w.1.length ls rest = true)
    (hRc : cells + 1 ≤ R.cells) (hRs : slots + z ≤ R.slots)
    (kk : ∀ (q : Nat) (H1 : Heap), lv_has la nL (xj_cl (va_up ad w.1.length q) ls) → va_P D cl (xj_cw (va_up ad w.1.length q) cA (xj_nxt w sh)) H1 → va_D A (xj_cw (va_up ad w.1.length q) cA (xj_nxt w sh)) → va_S A s.heap H1 locs →
      W p l e R s m args below meth c H1 locs (cells + 1) (slots + z) Q (F0 m nx la ((Value.ref w.1.length :: rest).map (xj_cv (va_up ad w.1.length q))))) :
    W p l e R s m args below meth c H locs cells slots Q (F0 m pc la (st.map (xj_cv ad))) := by
  have hn := xj_wok_lt hw
  simp only [xj_safe, Bool.and_eq_true] at hsf
  have hls : ∀ q, xj_cl (va_up ad w.1.length q) ls = xj_cl ad ls := fun q => xj_cl_ag (xj_ag_up hn) hsf.1
  have hrs : ∀ q, (Value.ref w.1.length :: rest).map (xj_cv (va_up ad w.1.length q)) = .ref q :: rest.map (xj_cv ad) := by
    intro q
    rw [List.map_cons, xj_st_ag (xj_ag_up hn) hsf.2]
    show Value.ref (va_up ad w.1.length q w.1.length) :: _ = _
    rw [va_up_self]
  obtain ⟨len, hdec, hfit⟩ := hd
  unfold xj_mk at hk
  split at hk
  · rename_i ix
    split at hk
    · rename_i ci fs hnw
      simp only [Option.some.injEq, Prod.mk.injEq] at hk
      obtain ⟨rfl, rfl, rfl⟩ := hk
      simp only [xj_fit, Bool.and_eq_true, decide_eq_true_eq] at hfit
      obtain ⟨rfl, rfl⟩ := hfit
      obtain ⟨C, T, N, ty0, gs, g1, g2, g3, g4, g5, g6, g7, g8, g9⟩ := hGN _ _ _ hnw
      rw [g7] at hRs kk
      refine va_new hx hb hts g2 ty0 g3 hown (hts _ g4) (hts _ g5) (hts _ g6) hK hP hD hS hA g1 (fs := gs) g9 hRc hRs hdec fun q H1 hP1 hD1 hS1 => ?_
      have hcw : xj_cw (va_up ad w.1.length q) cA (xj_nxt w (.inr (ci, fs))) = xj_cw ad cA w ++ [(q, .inr (ci, gs))] :=
        xj_cw_app hw rfl (fun j hj => xj_setA_ne _ _ hj) (fun j hj => xj_nxt_ne w hj) (by rw [xj_setA_same]; show Sum.inr (ci, fs.mapIdx (xj_fv _ (fun _ => 0))) = _; rw [g8])
      have k9 := kk q H1 (by rw [hls]; exact hl) (by rw [hcw]; exact hP1) (by rw [hcw]; exact hD1) hS1
      rw [hrs] at k9
      exact k9
    · cases hk
  · rename_i t
    split at hk
    · rename_i k9 r
      split at hk
      · cases hk
      · rename_i hno
        simp only [not_or] at hno
        obtain ⟨hk0, hk1⟩ := hno
        have hKf : ∀ (ty : FieldType) (cA' : ClassId), (∃ k : Nat, (xj_ty cA)[k]? = some (cA ty, ty)) → va_K D cl (xj_ty cA ++ [(cA', ty)]) s → (∀ cls, ty ≠ .object cls) → cA' = cA ty := by
          intro ty cA' ⟨k, hk9⟩ hK' hno9
          have h1 := (hK.2 k _ hk9).2
          have h2 := (hK'.2 3 (cA', ty) rfl).2
          have e1 : s.vm.findClass ("[" ++ ty.toString) = some (cA ty) := by
            cases ty <;> first | exact h1 | exact absurd rfl (hno9 _)
          have e2 : s.vm.findClass ("[" ++ ty.toString) = some cA' := by
            cases ty <;> first | exact h2 | exact absurd rfl (hno9 _)
          exact Option.some.inj (e2.symm.trans e1)
        split at hk
        · simp only [Option.some.injEq, Prod.mk.injEq] at hk
          obtain ⟨rfl, rfl, rfl⟩ := hk
          simp only [xj_fit, Bool.and_eq_true, decide_eq_true_eq] at hfit
          obtain ⟨rfl, rfl⟩ := hfit
          refine va_newa hx hb (hts _ hAr.1) (atype := .int) (ty := .int) rfl hK hP hD hS hA (a0 := (k9.toNatClampNeg, .inl (fun _ => 0))) (fun _ => rfl) hk0 rfl (by show k9.toNatClampNeg * 4 ≤ 536870912; omega) hRc hRs hdec fun q cA' H1 hK1 hP1 hD1 hS1 => ?_
          have hc9 := hKf .int cA' ⟨0, rfl⟩ hK1 (fun _ h => by cases h)
          subst hc9
          have hcw : xj_cw (va_up ad w.1.length q) cA (xj_nxt w (.inl (.int, k9.toNatClampNeg))) = xj_cw ad cA w ++ [(q, .inl (cA .int, k9.toNatClampNeg, .inl (fun _ => 0)))] :=
            xj_cw_app hw rfl (fun j hj => xj_setA_ne _ _ hj) (fun j hj => xj_nxt_ne w hj) (by rw [xj_setA_same]; rfl)
          have k8 := kk q H1 (by rw [hls]; exact hl) (by rw [hcw]; exact hP1) (by rw [hcw]; exact hD1) hS1
          rw [hrs] at k8
          exact k8
        · simp only [Option.some.injEq, Prod.mk.injEq] at hk
          obtain ⟨rfl, rfl, rfl⟩ := hk
          simp only [xj_fit, Bool.and_eq_true, decide_eq_true_eq] at hfit
          obtain ⟨rfl, rfl⟩ := hfit
          refine va_newa hx hb (hts _ hAr.2.1) (atype := .boolean) (ty := .boolean) rfl hK hP hD hS hA (a0 := (k9.toNatClampNeg, .inl (fun _ => 0))) (fun _ => rfl) hk0 rfl (by show k9.toNatClampNeg * 1 ≤ 536870912; omega) hRc hRs hdec fun q cA' H1 hK1 hP1 hD1 hS1 => ?_
          have hc9 := hKf .boolean cA' ⟨1, rfl⟩ hK1 (fun _ h => by cases h)
          subst hc9
          have hcw : xj_cw (va_up ad w.1.length q) cA (xj_nxt w (.inl (.boolean, k9.toNatClampNeg))) = xj_cw ad cA w ++ [(q, .inl (cA .boolean, k9.toNatClampNeg, .inl (fun _ => 0)))] :=
            xj_cw_app hw rfl (fun j hj => xj_setA_ne _ _ hj) (fun j hj => xj_nxt_ne w hj) (by rw [xj_setA_same]; rfl)
          have k8 := kk q H1 (by rw [hls]; exact hl) (by rw [hcw]; exact hP1) (by rw [hcw]; exact hD1) hS1
          rw [hrs] at k8
          exact k8
        · simp only [Option.some.injEq, Prod.mk.injEq] at hk
          obtain ⟨rfl, rfl, rfl⟩ := hk
          simp only [xj_fit, Bool.and_eq_true, decide_eq_true_eq] at hfit
          obtain ⟨rfl, rfl⟩ := hfit
          refine va_newa hx hb (hts _ hAr.2.2) (atype := .long) (ty := .long) rfl hK hP hD hS hA (a0 := (k9.toNatClampNeg, .inr (.inl (fun _ => 0)))) (fun _ => rfl) hk0 rfl (by show k9.toNatClampNeg * 8 ≤ 536870912; omega) hRc hRs hdec fun q cA' H1 hK1 hP1 hD1 hS1 => ?_
          have hc9 := hKf .long cA' ⟨2, rfl⟩ hK1 (fun _ h => by cases h)
          subst hc9
          have hcw : xj_cw (va_up ad w.1.length q) cA (xj_nxt w (.inl (.long, k9.toNatClampNeg))) = xj_cw ad cA w ++ [(q, .inl (cA .long, k9.toNatClampNeg, .inr (.inl (fun _ => 0))))] :=
            xj_cw_app hw rfl (fun j hj => xj_setA_ne _ _ hj) (fun j hj => xj_nxt_ne w hj) (by simp only [if_true]; rfl)
          have k8 := kk q H1 (by rw [hls]; exact hl) (by rw [hcw]; exact hP1) (by rw [hcw]; exact hD1) hS1
          rw [hrs] at k8
          exact k8
        · cases hk
    · cases hk
  · cases hk
/-- the words of a catch: the row of the table that takes it -/
def xj_GH (yN : Nat → MethodName) (hh : Nat → List (Nat × Nat × Nat × Nat)) (cm wk : List Jvm.Cond) (ncL : List (String × String)) (E : String) (mi pc hp : Nat) : Prop :=
  ∃ (pre : List ExceptionTableEntry) (x : ExceptionTableEntry) (suf : List ExceptionTableEntry) (nm : String), tableOf (hh mi) = pre ++ x :: suf ∧ x.handlerPc = hp ∧ covers x pc = true ∧ x.catchType ≠ 0 ∧ Jvm.Cond.classLink (yN mi).cls x.catchType nm ∈ cm ∧ Jvm.Cond.castable E nm ∈ wk ∧
    ∀ z ∈ pre, covers z pc = false ∨ (z.catchType ≠ 0 ∧ ∃ nm', Jvm.Cond.classLink (yN mi).cls z.catchType nm' ∈ cm ∧ (E, nm') ∈ ncL)
theorem xj_cth {hh : Nat → List (Nat × Nat × Nat × Nat)} {stL : List (String × Nat × String)} {ncL : List (String × String)} {E : String} {hp : Nat} {ce : Cell} {q : Addr} (hown : s.vm.findClass (yN mi).cls = some m.cls) (hts : ∀ w ∈ cm, w.before args s = true) (hwk : xj_Wk wk) (hF : xj_Fx X D cl cA A wk stL ncL ad s s.heap)
    (htab : c.exceptionTable.toList = tableOf (hh mi)) (hGH : xj_GH yN hh cm wk ncL E mi pc hp) (hcell : H[q]? = some ce) (hv : ce.vm = .none) (hcl : s.vm.findClass E = some ce.cls)
    (kk : W p l e R s m args below meth c H locs cells slots Q (F0 m hp la [.ref q])) : vx_W p l e R s m args below meth c H locs cells slots Q (F0 m pc la rest) q := by
  obtain ⟨pre, x, suf, nm, h1, rfl, h3, h4, h5, h6, h7⟩ := hGH
  refine vx_catch hown pre x suf (htab.trans h1) (fun z hz => ?_) h3 h4 (hts _ h5) (va_Nw.use (hwk _ h6).1 (hF.2.2.2.1 _ h6)) hcell hv hcl kk
  rcases h7 z hz with h | ⟨ha, nm', hb', hc'⟩
  · exact Or.inl h
  · exact Or.inr ⟨ha, nm', hts _ hb', hF.2.2.2.2.2.2.2 _ hc'⟩
end XJ8
