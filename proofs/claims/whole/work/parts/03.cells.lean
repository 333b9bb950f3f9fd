/-! plain steps that read or write cells -/
theorem xj_fv_set {ad : Nat → Nat} {σ : Nat → Int32} {fs : List Value} {k : Nat} {y x : Int32} (h : fs[k]? = some (.int y)) : fs.mapIdx (xj_fv ad (upd σ k x)) = (fs.mapIdx (xj_fv ad σ)).set k (.int x) := by
  apply List.ext_getElem?
  intro j
  simp only [List.getElem?_mapIdx, List.getElem?_set, List.length_mapIdx]
  by_cases hj : k = j
  · subst hj
    have hl := (List.getElem?_eq_some_iff.mp h).1
    rw [if_pos rfl, if_pos hl, h]
    simp [xj_fv, upd]
  · simp only [if_neg hj]
    cases hs : fs[j]? with
    | none => rfl
    | some q =>
      have hj' : j ≠ k := fun e => hj e.symm
      cases q <;> simp [xj_fv, upd, hj']
theorem xj_fv_ref {ad : Nat → Nat} {σ : Nat → Int32} {fs : List Value} {k a : Nat} : (fs.set k (.ref a)).mapIdx (xj_fv ad σ) = (fs.mapIdx (xj_fv ad σ)).set k (.ref (ad a)) := by
  apply List.ext_getElem?
  intro j
  simp only [List.getElem?_mapIdx, List.getElem?_set, List.length_mapIdx]
  by_cases hj : k = j
  · subst hj
    by_cases hl : k < fs.length
    · simp [hl, xj_fv, xj_cv]
    · simp [hl]
  · simp only [if_neg hj]
abbrev xj_ty (cA : FieldType → ClassId) : List (ClassId × FieldType) := [(cA .int, .int), (cA .boolean, .boolean), (cA .long, .long)]
/-- what the tables say of a field's place -/
def xj_Fl (X : xj_T) (mi : Nat) (own name : String) (s : State) (args : Array Value) (Ts : List Jvm.Cond) (cl : List vw_C) : Prop :=
  ∀ ix ci k so, xj_fl X mi ix = some (ci, k, so) → ∃ (C : String) (T : u_T) (N : Nat) (ty0 : Nat → FieldType), cl[ci]? = some (C, T, N) ∧ (∀ w ∈ u_ws C T N, w ∈ Ts) ∧ (∀ k, k < N → parseFieldDescriptor (T k).2.2.1 = some (ty0 k)) ∧ (∀ a, a < N → ∀ b, b < N → a ≠ b → (T a).2.1 ≠ (T b).2.1) ∧ k < N ∧
    (Jvm.Cond.fieldLink own ix (T k).1 (T k).2.1 (T k).2.2.1).before args s = true ∧
    (so = 0 → ty0 k = .int ∧ (T k).2.2.2 = false) ∧ (so = 1 → ty0 k = .boolean ∧ (T k).2.2.2 = false) ∧ (so = 2 → ((∃ t, ty0 k = .array t) ∨ ∃ n, ty0 k = .object n) ∧ (T k).2.2.2 = true ∧ (T k).1 = own ∧ name = "<init>")
section XJ2
variable {p : Program} {l : Launch} {e : Env} {R : Room} {s : State} {m : MethodId} {args : Array Value} {below : List Frame} {meth : Method} {c : Code} {cells slots : Nat} {Q : State → Prop}
variable {D : va_G} {cl : List vw_C} {cA : FieldType → ClassId} {A : Nat → Prop} {nL : Nat} {ad : Nat → Nat} {cc : ByteArray}
variable {X : xj_T} {mi : Nat} {own : String} {Ts : List Jvm.Cond}
variable {i : Instr} {nx pc pc' : Nat} {ls ls' : List (Nat × Value)} {st st' : List Value} {w w' : xj_W}
theorem xj_to_some {pc t : Nat} {off : Int} (h : xj_to pc off = some t) : (pc : Int) + off = (t : Int) := by
  unfold xj_to at h
  split at h
  · cases h
    rename_i hp
    exact (Int.toNat_of_nonneg hp).symm
  · cases h
theorem xj_snH (hx : p.tables.exec = Jvm.exec) (hb : c.code = cc) (h : xj_sH i pc ls st w = some (pc', ls', st', w')) (hd : xj_dec cc nL pc i nx) (k : xj_Go p l e R s m args below meth c cells slots Q D cl cA A nL ad pc' ls' st' w') : xj_Go p l e R s m args below meth c cells slots Q D cl cA A nL ad pc ls st w := by
  obtain ⟨len, hdec, -⟩ := hd
  intro H locs la hl hP hD hS
  unfold xj_sH at h
  split at h
  · rename_i dflt lo hi offs x r
    split at h
    · rename_i hout
      obtain ⟨t, ht, he⟩ := Option.map_eq_some_iff.mp h
      simp only [Prod.mk.injEq] at he
      obtain ⟨rfl, rfl, rfl, rfl⟩ := he
      exact lv_tableOut hx hb hdec hout (xj_to_some ht) (k H locs la hl hP hD hS)
    · rename_i hin
      split at h
      · rename_i off ho
        obtain ⟨t, ht, he⟩ := Option.map_eq_some_iff.mp h
        simp only [Prod.mk.injEq] at he
        obtain ⟨rfl, rfl, rfl, rfl⟩ := he
        exact lv_tableIn hx hb hdec (fun q => hin (Or.inl q)) (fun q => hin (Or.inr q)) ho (xj_to_some ht) (k H locs la hl hP hD hS)
      · cases h
  · rename_i dflt ps x r
    split at h
    · rename_i hsorted
      obtain ⟨t, ht, he⟩ := Option.map_eq_some_iff.mp h
      simp only [Prod.mk.injEq] at he
      obtain ⟨rfl, rfl, rfl, rfl⟩ := he
      exact lv_lookup hx hb hdec hsorted rfl (xj_to_some ht) (k H locs la hl hP hD hS)
    · cases h
  · cases h
theorem xj_snI (hx : p.tables.exec = Jvm.exec) (hb : c.code = cc) (hK : va_K D cl (xj_ty cA) s) (h : xj_sI i nx ls st w = some (pc', ls', st', w')) (hd : xj_dec cc nL pc i nx) (k : xj_Go p l e R s m args below meth c cells slots Q D cl cA A nL ad pc' ls' st' w') : xj_Go p l e R s m args below meth c cells slots Q D cl cA A nL ad pc ls st w := by
  obtain ⟨len, hdec, hfit⟩ := hd
  intro H locs la hl hP hD hS
  unfold xj_sI at h
  split at h
  · simp only [Option.some.injEq, Prod.mk.injEq] at h
    obtain ⟨rfl, rfl, rfl, rfl⟩ := h
    simp only [xj_fit, Bool.and_eq_true, decide_eq_true_eq] at hfit
    obtain ⟨rfl, rfl⟩ := hfit
    exact lv_i2l hx hb hdec rfl (k H locs la hl hP hD hS)
  · simp only [Option.some.injEq, Prod.mk.injEq] at h
    obtain ⟨rfl, rfl, rfl, rfl⟩ := h
    simp only [xj_fit, Bool.and_eq_true, decide_eq_true_eq] at hfit
    obtain ⟨rfl, rfl⟩ := hfit
    exact W.lcmp hx hb hdec (k H locs la hl hP hD hS)
  · rename_i j a r
    split at h
    · rename_i n hsh
      split at h
      · cases h
      · rename_i hin
        simp only [Option.some.injEq, Prod.mk.injEq] at h
        obtain ⟨rfl, rfl, rfl, rfl⟩ := h
        simp only [xj_fit, Bool.and_eq_true, decide_eq_true_eq] at hfit
        obtain ⟨rfl, rfl⟩ := hfit
        exact va_lald hx hb hK hP a 2 (xj_cw_at hsh) rfl hin hdec (k H locs la hl hP hD hS)
    · cases h
  · rename_i x j a r
    split at h
    · rename_i n hsh
      split at h
      · cases h
      · rename_i hin
        simp only [Option.some.injEq, Prod.mk.injEq] at h
        obtain ⟨rfl, rfl, rfl, rfl⟩ := h
        simp only [xj_fit, Bool.and_eq_true, decide_eq_true_eq] at hfit
        obtain ⟨rfl, rfl⟩ := hfit
        have hcw := xj_cw_set (ad := ad) (cA := cA) (S := w.1) (S' := w.1) (σ := w.2.1) (σ' := w.2.1) (τ := w.2.2) (τ' := xj_setL w.2.2 a j.toNatClampNeg x) (c := a) (xj_self hsh) (fun _ _ => rfl) (fun q hq => xj_setL_ne _ _ _ hq) (e := .inl (cA .long, n, .inr (.inl (vp_updL (w.2.2 a) j.toNatClampNeg x)))) (by rw [xj_setL_same]; rfl)
        refine va_last hx hb hK hP hD hS a 2 (xj_cw_at hsh) rfl hin hdec fun H1 locs1 hP1 hD1 hS1 => ?_
        exact k H1 locs1 la hl (by rw [hcw]; exact hP1) (by rw [hcw]; exact hD1) hS1
    · cases h
  · cases h
theorem xj_snJ (hx : p.tables.exec = Jvm.exec) (hb : c.code = cc) (hts : ∀ w ∈ Ts, w.before args s = true) (hown : s.vm.findClass own = some m.cls) (hK : va_K D cl (xj_ty cA) s) (hF : xj_Fl X mi own meth.name s args Ts cl)
    (hG : ∀ ix a, xj_gs X mi ix = some a → ∀ (H : Heap) (locs : List Loc) (pc : Nat) (la : Array Slot) (rest : List Value), va_S A s.heap H locs → decode cc pc = .ok (.getstatic ix, 3) → W p l e R s m args below meth c H locs cells slots Q (F0 m (pc + 3) la (.ref (ad a) :: rest)) → W p l e R s m args below meth c H locs cells slots Q (F0 m pc la rest))
    (h : xj_sJ X mi i nx ls st w = some (pc', ls', st', w')) (hd : xj_dec cc nL pc i nx) (k : xj_Go p l e R s m args below meth c cells slots Q D cl cA A nL ad pc' ls' st' w') : xj_Go p l e R s m args below meth c cells slots Q D cl cA A nL ad pc ls st w := by
  obtain ⟨len, hdec, hfit⟩ := hd
  intro H locs la hl hP hD hS
  unfold xj_sJ at h
  split at h
  · rename_i ix a r
    split at h
    · rename_i ci kf so cj fs hfl hsh
      split at h
      · rename_i hcj
        subst hcj
        obtain ⟨C, T, N, ty0, q1, q2, q3, q4, q5, q6, -, -, -⟩ := hF _ _ _ _ hfl
        split at h
        · rename_i y hk
          simp only [Option.some.injEq, Prod.mk.injEq] at h
          obtain ⟨rfl, rfl, rfl, rfl⟩ := h
          simp only [xj_fit, Bool.and_eq_true, decide_eq_true_eq] at hfit
          obtain ⟨rfl, rfl⟩ := hfit
          exact va_get hx hb hts q2 hown hK hP a (xj_cw_at hsh) q1 kf q5 q6 (fun _ z => z) (by rw [List.getElem?_mapIdx, hk]; rfl) hdec (k H locs la hl hP hD hS)
        · rename_i b hk
          simp only [Option.some.injEq, Prod.mk.injEq] at h
          obtain ⟨rfl, rfl, rfl, rfl⟩ := h
          simp only [xj_fit, Bool.and_eq_true, decide_eq_true_eq] at hfit
          obtain ⟨rfl, rfl⟩ := hfit
          exact va_get hx hb hts q2 hown hK hP a (xj_cw_at hsh) q1 kf q5 q6 (fun _ z => z) (by rw [List.getElem?_mapIdx, hk]; rfl) hdec (k H locs la hl hP hD hS)
        · cases h
      · cases h
    · cases h
  · rename_i ix x a r
    split at h
    · rename_i ci kf so cj fs hfl hsh
      split at h
      · rename_i hcj
        subst hcj
        obtain ⟨C, T, N, ty0, q1, q2, q3, q4, q5, q6, t0, t1, -⟩ := hF _ _ _ _ hfl
        split at h
        · rename_i y hk
          split at h
          · rename_i hso
            simp only [Option.some.injEq, Prod.mk.injEq] at h
            obtain ⟨rfl, rfl, rfl, rfl⟩ := h
            simp only [xj_fit, Bool.and_eq_true, decide_eq_true_eq] at hfit
            obtain ⟨rfl, rfl⟩ := hfit
            have hcw := xj_cw_set (ad := ad) (cA := cA) (S := w.1) (S' := w.1) (σ := w.2.1) (σ' := xj_set w.2.1 a kf x) (τ := w.2.2) (τ' := w.2.2) (c := a) (xj_self hsh) (fun q hq => xj_set_ne _ _ _ hq) (fun _ _ => rfl) (e := .inr (cj, (fs.mapIdx (xj_fv ad (w.2.1 a))).set kf (.int x))) (by rw [xj_set_same]; show Sum.inr (cj, fs.mapIdx (xj_fv ad (upd (w.2.1 a) kf x))) = _; rw [xj_fv_set hk])
            have hlen : kf < (fs.mapIdx (xj_fv ad (w.2.1 a))).length := by rw [List.length_mapIdx]; exact (List.getElem?_eq_some_iff.mp hk).1
            rcases hso with rfl | ⟨rfl, hx01⟩
            · obtain ⟨ht, hfin⟩ := t0 rfl
              refine va_put hx hb hts q2 ty0 q3 q4 hown hK hP hD hS a (xj_cw_at hsh) q1 kf q5 q6 (fun _ z => z) hfin (ty := .int) (by rw [q3 kf q5, ht]) rfl rfl hlen hdec fun H1 locs1 hP1 hD1 hS1 => ?_
              exact k H1 locs1 la hl (by rw [hcw]; exact hP1) (by rw [hcw]; exact hD1) hS1
            · obtain ⟨ht, hfin⟩ := t1 rfl
              have hn : narrow .boolean (.int x) = .int x ∧ fits .boolean (.int x) = true := by
                rcases hx01 with rfl | rfl
                · exact ⟨rfl, rfl⟩
                · exact ⟨rfl, rfl⟩
              refine va_put hx hb hts q2 ty0 q3 q4 hown hK hP hD hS a (xj_cw_at hsh) q1 kf q5 q6 (fun _ z => z) hfin (ty := .boolean) (by rw [q3 kf q5, ht]) hn.1 hn.2 hlen hdec fun H1 locs1 hP1 hD1 hS1 => ?_
              exact k H1 locs1 la hl (by rw [hcw]; exact hP1) (by rw [hcw]; exact hD1) hS1
          · cases h
        · cases h
      · cases h
    · cases h
  · rename_i ix b a r
    split at h
    · rename_i ci kf so cj fs hfl hsh
      split at h
      · rename_i hcj
        subst hcj
        obtain ⟨C, T, N, ty0, q1, q2, q3, q4, q5, q6, -, -, t2⟩ := hF _ _ _ _ hfl
        split at h
        · rename_i hk
          split at h
          · rename_i hso
            simp only [Option.some.injEq, Prod.mk.injEq] at h
            obtain ⟨rfl, rfl, rfl, rfl⟩ := h
            simp only [xj_fit, Bool.and_eq_true, decide_eq_true_eq] at hfit
            obtain ⟨rfl, rfl⟩ := hfit
            obtain ⟨ht, hfin, hdecl, hini⟩ := t2 hso
            have hcw := xj_cw_set (ad := ad) (cA := cA) (S := w.1) (S' := w.1.set a (.inr (cj, fs.set kf (.ref b)))) (σ := w.2.1) (σ' := w.2.1) (τ := w.2.2) (τ' := w.2.2) (c := a) rfl (fun _ _ => rfl) (fun _ _ => rfl) (e := .inr (cj, (fs.mapIdx (xj_fv ad (w.2.1 a))).set kf (.ref (ad b)))) (by show Sum.inr (cj, (fs.set kf (.ref b)).mapIdx (xj_fv ad (w.2.1 a))) = _; rw [xj_fv_ref])
            have hlen : kf < (fs.mapIdx (xj_fv ad (w.2.1 a))).length := by rw [List.length_mapIdx]; exact (List.getElem?_eq_some_iff.mp hk).1
            have hn : narrow (ty0 kf) (.ref (ad b)) = .ref (ad b) ∧ fits (ty0 kf) (.ref (ad b)) = true := by
              rcases ht with ⟨t, ht⟩ | ⟨n, ht⟩
              · rw [ht]; exact ⟨rfl, rfl⟩
              · rw [ht]; exact ⟨rfl, rfl⟩
            refine va_putF hx hb hts q2 ty0 q3 q4 hown hK hP hD hS a (xj_cw_at hsh) q1 kf q5 q6 (fun _ z => z) hfin hini hdecl (q3 kf q5) hn.1 hn.2 hlen hdec fun H1 locs1 hP1 hD1 hS1 => ?_
            exact k H1 locs1 la hl (by rw [hcw]; exact hP1) (by rw [hcw]; exact hD1) hS1
          · cases h
        · cases h
      · cases h
    · cases h
  · rename_i ix
    split at h
    · rename_i a hgs
      simp only [Option.some.injEq, Prod.mk.injEq] at h
      obtain ⟨rfl, rfl, rfl, rfl⟩ := h
      simp only [xj_fit, Bool.and_eq_true, decide_eq_true_eq] at hfit
      obtain ⟨rfl, rfl⟩ := hfit
      exact hG _ _ hgs H locs pc la _ hS hdec (k H locs la hl hP hD hS)
    · cases h
  · cases h
theorem xj_snL (hx : p.tables.exec = Jvm.exec) (hb : c.code = cc) (hK : va_K D cl (xj_ty cA) s) (hV : ∀ a n f, xj_gv X a = some (n, f) → va_T .int (ad a) n (fun j => .int (f j)) A s s.heap)
    (h : xj_sL X i nx ls st w = some (pc', ls', st', w')) (hd : xj_dec cc nL pc i nx) (k : xj_Go p l e R s m args below meth c cells slots Q D cl cA A nL ad pc' ls' st' w') : xj_Go p l e R s m args below meth c cells slots Q D cl cA A nL ad pc ls st w := by
  obtain ⟨len, hdec, hfit⟩ := hd
  intro H locs la hl hP hD hS
  unfold xj_sL at h
  split at h
  · rename_i j a r
    split at h
    · rename_i n hsh
      split at h
      · cases h
      · rename_i hin
        simp only [Option.some.injEq, Prod.mk.injEq] at h
        obtain ⟨rfl, rfl, rfl, rfl⟩ := h
        simp only [xj_fit, Bool.and_eq_true, decide_eq_true_eq] at hfit
        obtain ⟨rfl, rfl⟩ := hfit
        exact va_iald hx hb hK hP a 0 (xj_cw_at hsh) rfl hin hdec (k H locs la hl hP hD hS)
    · cases h
    · split at h
      · rename_i n f hgv
        split at h
        · cases h
        · rename_i hin
          simp only [Option.some.injEq, Prod.mk.injEq] at h
          obtain ⟨rfl, rfl, rfl, rfl⟩ := h
          simp only [xj_fit, Bool.and_eq_true, decide_eq_true_eq] at hfit
          obtain ⟨rfl, rfl⟩ := hfit
          exact va_ti hx hb (hV _ _ _ hgv) hS hin rfl hdec (k H locs la hl hP hD hS)
      · cases h
  · rename_i j a r
    split at h
    · rename_i n hsh
      split at h
      · cases h
      · rename_i hin
        simp only [Option.some.injEq, Prod.mk.injEq] at h
        obtain ⟨rfl, rfl, rfl, rfl⟩ := h
        simp only [xj_fit, Bool.and_eq_true, decide_eq_true_eq] at hfit
        obtain ⟨rfl, rfl⟩ := hfit
        exact va_zald hx hb hK hP a 1 (xj_cw_at hsh) rfl hin hdec (k H locs la hl hP hD hS)
    · cases h
  · rename_i x j a r
    split at h
    · rename_i n hsh
      split at h
      · cases h
      · rename_i hin
        simp only [Option.some.injEq, Prod.mk.injEq] at h
        obtain ⟨rfl, rfl, rfl, rfl⟩ := h
        simp only [xj_fit, Bool.and_eq_true, decide_eq_true_eq] at hfit
        obtain ⟨rfl, rfl⟩ := hfit
        have hcw := xj_cw_set (ad := ad) (cA := cA) (S := w.1) (S' := w.1) (σ := w.2.1) (σ' := xj_set w.2.1 a j.toNatClampNeg x) (τ := w.2.2) (τ' := w.2.2) (c := a) (xj_self hsh) (fun q hq => xj_set_ne _ _ _ hq) (fun _ _ => rfl) (e := .inl (cA .int, n, .inl (upd (w.2.1 a) j.toNatClampNeg x))) (by rw [xj_set_same]; rfl)
        refine va_iast hx hb hK hP hD hS a 0 (xj_cw_at hsh) rfl hin hdec fun H1 locs1 hP1 hD1 hS1 => ?_
        exact k H1 locs1 la hl (by rw [hcw]; exact hP1) (by rw [hcw]; exact hD1) hS1
    · cases h
  · rename_i x j a r
    split at h
    · rename_i n hsh
      split at h
      · cases h
      · rename_i hin
        simp only [Option.some.injEq, Prod.mk.injEq] at h
        obtain ⟨rfl, rfl, rfl, rfl⟩ := h
        simp only [xj_fit, Bool.and_eq_true, decide_eq_true_eq] at hfit
        obtain ⟨rfl, rfl⟩ := hfit
        have hcw := xj_cw_set (ad := ad) (cA := cA) (S := w.1) (S' := w.1) (σ := w.2.1) (σ' := xj_set w.2.1 a j.toNatClampNeg (x &&& 1)) (τ := w.2.2) (τ' := w.2.2) (c := a) (xj_self hsh) (fun q hq => xj_set_ne _ _ _ hq) (fun _ _ => rfl) (e := .inl (cA .boolean, n, .inl (upd (w.2.1 a) j.toNatClampNeg (x &&& 1)))) (by rw [xj_set_same]; rfl)
        refine va_zast hx hb hK hP hD hS a 1 (xj_cw_at hsh) rfl hin hdec fun H1 locs1 hP1 hD1 hS1 => ?_
        exact k H1 locs1 la hl (by rw [hcw]; exact hP1) (by rw [hcw]; exact hD1) hS1
    · cases h
  · rename_i a r
    split at h
    · rename_i n hsh
      simp only [Option.some.injEq, Prod.mk.injEq] at h
      obtain ⟨rfl, rfl, rfl, rfl⟩ := h
      simp only [xj_fit, Bool.and_eq_true, decide_eq_true_eq] at hfit
      obtain ⟨rfl, rfl⟩ := hfit
      exact va_alen hx hb hK hP a 0 (xj_cw_at hsh) (ty := .int) rfl rfl hdec (k H locs la hl hP hD hS)
    · cases h
    · split at h
      · rename_i n f hgv
        simp only [Option.some.injEq, Prod.mk.injEq] at h
        obtain ⟨rfl, rfl, rfl, rfl⟩ := h
        simp only [xj_fit, Bool.and_eq_true, decide_eq_true_eq] at hfit
        obtain ⟨rfl, rfl⟩ := hfit
        exact va_tlen hx hb (hV _ _ _ hgv) hS rfl hdec (k H locs la hl hP hD hS)
      · cases h
  · cases h
theorem xj_snM (hx : p.tables.exec = Jvm.exec) (hb : c.code = cc) (hown : s.vm.findClass own = some m.cls) (hml : c.maxLocals = nL) (hK : va_K D cl (xj_ty cA) s) (hRf : 1 ≤ R.frames) (hRl : 64 ≤ R.locals)
    (hO : ∀ ix a b, xj_ml X mi ix = some (9, a, b) → (Jvm.Cond.methodLink own ix Lib.objectInit).before args s = true ∧ (Jvm.Cond.instanceMethod Lib.objectInit).before args s = true ∧ (Jvm.Cond.code Lib.objectInit ⟨#[0xb1]⟩ 1 none).before args s = true)
    (hC : ∀ ix a b, xj_ml X mi ix = some (8, a, b) → (Jvm.Cond.methodLink own ix arraycopyName).before args s = true ∧ (Jvm.Cond.native arraycopyName).before args s = true ∧ (Jvm.Cond.static arraycopyName).before args s = true ∧ (Jvm.Cond.initialized "java/lang/System").before args s = true)
    (h : xj_sM X mi i nx ls st w = some (pc', ls', st', w')) (hd : xj_dec cc nL pc i nx) (k : xj_Go p l e R s m args below meth c cells slots Q D cl cA A nL ad pc' ls' st' w') : xj_Go p l e R s m args below meth c cells slots Q D cl cA A nL ad pc ls st w := by
  obtain ⟨len, hdec, hfit⟩ := hd
  intro H locs la hl hP hD hS
  have hcat : ∀ r : List Value, ((r.map (xj_cv ad)).map fun v => v.category).sum = (r.map fun v => v.category).sum := by
    intro r
    rw [List.map_map]
    congr 1
    apply List.map_congr_left
    intro v _
    exact xj_cv_cat ad v
  unfold xj_sM at h
  split at h
  · rename_i ix a r
    split at h
    · rename_i q1 q2 hmlk
      split at h
      · rename_i hsum
        simp only [Option.some.injEq, Prod.mk.injEq] at h
        obtain ⟨rfl, rfl, rfl, rfl⟩ := h
        simp only [xj_fit, Bool.and_eq_true, decide_eq_true_eq] at hfit
        obtain ⟨rfl, rfl⟩ := hfit
        obtain ⟨o1, o2, o3⟩ := hO _ _ _ hmlk
        refine W.objInit hx hb hown o1 o2 o3 rfl (by rw [hml]; exact hl.1) rfl hdec hRf ?_ (k H locs la hl hP hD hS)
        have hm0 : (F0 m pc la (Value.ref (ad a) :: r.map (xj_cv ad))).monitorRoom = 0 := rfl
        have hc9 := hcat r
        show 2 * (F0 m pc la (Value.ref (ad a) :: r.map (xj_cv ad))).monitorRoom + ((r.map (xj_cv ad)).map fun v => v.category).sum + 12 ≤ R.locals
        rw [hm0, hc9]
        omega
      · cases h
    · cases h
  · rename_i ix n dp b sp a r
    split at h
    · rename_i q1 q2 na nb hmlk ha hbb
      split at h
      · cases h
      · rename_i hno
        simp only [Option.some.injEq, Prod.mk.injEq] at h
        obtain ⟨rfl, rfl, rfl, rfl⟩ := h
        simp only [xj_fit, Bool.and_eq_true, decide_eq_true_eq] at hfit
        obtain ⟨rfl, rfl⟩ := hfit
        obtain ⟨o1, o2, o3, o4⟩ := hC _ _ _ hmlk
        simp only [not_or] at hno
        obtain ⟨n1, n2, n3, n4, n5, n6⟩ := hno
        have hcw := xj_cw_set (ad := ad) (cA := cA) (S := w.1) (S' := w.1) (σ := w.2.1) (σ' := xj_setA w.2.1 b (va_cpy (w.2.1 a) (w.2.1 b) sp.toNatClampNeg dp.toNatClampNeg n.toNatClampNeg)) (τ := w.2.2) (τ' := w.2.2) (c := b) (xj_self hbb) (fun q hq => xj_setA_ne _ _ hq) (fun _ _ => rfl) (e := .inl (cA .int, nb, .inl (va_cpy (w.2.1 a) (w.2.1 b) sp.toNatClampNeg dp.toNatClampNeg n.toNatClampNeg))) (by rw [xj_setA_same]; rfl)
        have hw9 : nativeFrameWords "java/lang/System" "arraycopy" 5 ≤ 40 := by decide
        have hc9 := hcat r
        refine va_copyi hx hb (hml.trans hl.1.symm) hown o1 o2 o3 o4 hK hP hD hS a b 0 0 (xj_cw_at ha) (xj_cw_at hbb) rfl rfl rfl n1 n2 n3 (by omega) (by omega) (fun _ _ => rfl) hRf (by rw [hc9]; omega) hdec fun H1 locs1 hP1 hD1 hS1 => ?_
        exact k H1 locs1 la hl (by rw [hcw]; exact hP1) (by rw [hcw]; exact hD1) hS1
    · cases h
  · cases h
end XJ2
