/-! What our machine's frames stand for, and that its plain steps are the model's. -/
def xj_cv (ad : Nat → Nat) : Value → Value
  | .ref a => .ref (ad a)
  | v => v
theorem xj_cv_cat (ad : Nat → Nat) (v : Value) : (xj_cv ad v).category = v.category := by cases v <;> rfl
def xj_cl (ad : Nat → Nat) (ls : List (Nat × Value)) : List (Nat × Value) := ls.map fun q => (q.1, xj_cv ad q.2)
/-- a field's value -/
def xj_fv (ad : Nat → Nat) (σ : Nat → Int32) (k : Nat) : Value → Value
  | .int _ => .int (σ k)
  | v => xj_cv ad v
def xj_cell (ad : Nat → Nat) (cA : FieldType → ClassId) (σ : Nat → Int32) (τ : Nat → Int64) : xj_S → va_E
  | .inl (.long, n) => .inl (cA .long, n, .inr (.inl τ))
  | .inl (ty, n) => .inl (cA ty, n, .inl σ)
  | .inr (ci, fs) => .inr (ci, fs.mapIdx (xj_fv ad σ))
def xj_cw (ad : Nat → Nat) (cA : FieldType → ClassId) (w : xj_W) : va_W := w.1.mapIdx fun c sh => (ad c, xj_cell ad cA (w.2.1 c) (w.2.2 c) sh)
theorem xj_cw_at {ad : Nat → Nat} {cA : FieldType → ClassId} {w : xj_W} {c : Nat} {sh : xj_S} (h : w.1[c]? = some sh) : (xj_cw ad cA w)[c]? = some (ad c, xj_cell ad cA (w.2.1 c) (w.2.2 c) sh) := by
  simp [xj_cw, List.getElem?_mapIdx, h]
/-- one cell's numbers change -/
theorem xj_cw_set {ad : Nat → Nat} {cA : FieldType → ClassId} {S S' : List xj_S} {σ σ' : Nat → Nat → Int32} {τ τ' : Nat → Nat → Int64} {c : Nat} {sh : xj_S} (hS : S' = S.set c sh) (h1 : ∀ j, j ≠ c → σ' j = σ j) (h2 : ∀ j, j ≠ c → τ' j = τ j) {e : va_E} (he : xj_cell ad cA (σ' c) (τ' c) sh = e) :
    xj_cw ad cA (S', σ', τ') = (xj_cw ad cA (S, σ, τ)).set c (ad c, e) := by
  subst hS
  subst he
  apply List.ext_getElem?
  intro j
  simp only [xj_cw, List.getElem?_mapIdx, List.getElem?_set, List.length_mapIdx]
  by_cases hj : c = j
  · subst hj
    by_cases hl : c < S.length
    · simp [hl]
    · simp [hl]
  · simp only [if_neg hj]
    cases hs : S[j]? with
    | none => rfl
    | some q => simp [h1 j (fun q => hj q.symm), h2 j (fun q => hj q.symm)]
theorem xj_set_same (σ : Nat → Nat → Int32) (c k : Nat) (x : Int32) : xj_set σ c k x c = upd (σ c) k x := by simp [xj_set]
theorem xj_set_ne (σ : Nat → Nat → Int32) {c j : Nat} (k : Nat) (x : Int32) (h : j ≠ c) : xj_set σ c k x j = σ j := by simp [xj_set, h]
theorem xj_setL_same (σ : Nat → Nat → Int64) (c k : Nat) (x : Int64) : xj_setL σ c k x c = vp_updL (σ c) k x := by simp [xj_setL]
theorem xj_setL_ne (σ : Nat → Nat → Int64) {c j : Nat} (k : Nat) (x : Int64) (h : j ≠ c) : xj_setL σ c k x j = σ j := by simp [xj_setL, h]
theorem xj_setA_same (σ : Nat → Nat → Int32) (c : Nat) (f : Nat → Int32) : xj_setA σ c f c = f := by simp [xj_setA]
theorem xj_setA_ne (σ : Nat → Nat → Int32) {c j : Nat} (f : Nat → Int32) (h : j ≠ c) : xj_setA σ c f j = σ j := by simp [xj_setA, h]
theorem xj_self {S : List xj_S} {c : Nat} {sh : xj_S} (h : S[c]? = some sh) : S = S.set c sh := by
  apply List.ext_getElem?
  intro j
  rw [List.getElem?_set]
  by_cases hj : c = j
  · subst hj
    obtain ⟨hl, he⟩ := List.getElem?_eq_some_iff.mp h
    rw [if_pos rfl, if_pos hl, h]
  · rw [if_neg hj]
theorem xj_mem {k : Nat} {v : Value} : ∀ {ls : List (Nat × Value)}, ls.lookup k = some v → (k, v) ∈ ls
  | [], h => by simp at h
  | (a, b) :: r, h => by
    rw [List.lookup_cons] at h
    by_cases hk : (k == a) = true
    · simp only [hk] at h
      have e : k = a := by simpa using hk
      cases h
      subst e
      exact List.mem_cons_self
    · have e : (k == a) = false := by simpa using hk
      simp only [e] at h
      exact List.mem_cons_of_mem _ (xj_mem h)
theorem xj_lk {ad : Nat → Nat} {la : Array Slot} {nL k : Nat} {ls : List (Nat × Value)} {v : Value} (hl : lv_has la nL (xj_cl ad ls)) (h : ls.lookup k = some v) : la[k]? = some (.val (xj_cv ad v)) :=
  hl.2.2 (k, xj_cv ad v) (List.mem_map.mpr ⟨(k, v), xj_mem h, rfl⟩)
theorem xj_cl_st1 (ad : Nat → Nat) (ls : List (Nat × Value)) (i : Nat) (v : Value) : (i, xj_cv ad v) :: (xj_cl ad ls).filter (fun q => !(q.1 == i) && !(q.1 + 1 == i && q.2.category == 2)) = xj_cl ad (xj_st1 ls i v) := by
  simp only [xj_cl, xj_st1, List.map_cons, List.filter_map]
  congr 1
  congr 1
  apply List.filter_congr
  intro q _
  simp only [Function.comp, xj_cv_cat]
def xj_len : Instr → Nat
  | .iconst _ | .iload_n _ | .aload_n _ | .istore_n _ | .astore_n _ => 1
  | .bipush _ | .iload _ | .aload _ | .istore _ | .astore _ | .newarray _ | .ldc _ => 2
  | .sipush _ | .iinc _ _ | .getfield _ | .putfield _ | .getstatic _ | .invokestatic _ | .invokevirtual _ | .invokespecial _ | .new _ => 3
  | _ => 1
/-- length and next place of an instruction, and the local that it stores into -/
def xj_fit (nL : Nat) (i : Instr) (pc nx len : Nat) : Bool :=
  match i with
  | .ifCond _ off => decide ((pc : Int) + off = (nx : Int)) && decide (len = 3)
  | .if_icmp _ off => decide ((pc : Int) + off = (nx : Int)) && decide (len = 3)
  | .goto off => decide ((pc : Int) + off = (nx : Int)) && decide (len = 3)
  | .tableswitch _ _ _ _ => true
  | .lookupswitch _ _ => true
  | .istore k => decide (nx = pc + 2) && decide (len = 2) && decide (k < nL)
  | .istore_n k => decide (nx = pc + 1) && decide (len = 1) && decide (k.val < nL)
  | .astore k => decide (nx = pc + 2) && decide (len = 2) && decide (k < nL)
  | .astore_n k => decide (nx = pc + 1) && decide (len = 1) && decide (k.val < nL)
  | .iinc k _ => decide (nx = pc + 3) && decide (len = 3) && decide (k < nL)
  | i => decide (nx = pc + xj_len i) && decide (len = xj_len i)
def xj_dec (cc : ByteArray) (nL pc : Nat) (i : Instr) (nx : Nat) : Prop := ∃ len, decode cc pc = .ok (i, len) ∧ xj_fit nL i pc nx len = true
section XJ1
variable {p : Program} {l : Launch} {e : Env} {R : Room} {s : State} {m : MethodId} {args : Array Value} {below : List Frame} {meth : Method} {c : Code} {cells slots : Nat} {Q : State → Prop}
variable {D : va_G} {cl : List vw_C} {cA : FieldType → ClassId} {A : Nat → Prop} {nL : Nat} {ad : Nat → Nat} {cc : ByteArray}
variable {i : Instr} {nx pc pc' : Nat} {ls ls' : List (Nat × Value)} {st st' : List Value} {w w' : xj_W}
/-- from this frame of ours, wherever its cells lie, the model comes to Q -/
def xj_Go (p : Program) (l : Launch) (e : Env) (R : Room) (s : State) (m : MethodId) (args : Array Value) (below : List Frame) (meth : Method) (c : Code) (cells slots : Nat) (Q : State → Prop) (D : va_G) (cl : List vw_C) (cA : FieldType → ClassId) (A : Nat → Prop) (nL : Nat) (ad : Nat → Nat) (pc : Nat) (ls : List (Nat × Value)) (st : List Value) (w : xj_W) : Prop :=
  ∀ (H : Heap) (locs : List Loc) (la : Array Slot), lv_has la nL (xj_cl ad ls) → va_P D cl (xj_cw ad cA w) H → va_D A (xj_cw ad cA w) → va_S A s.heap H locs → W p l e R s m args below meth c H locs cells slots Q (F0 m pc la (st.map (xj_cv ad)))
theorem xj_snA (hx : p.tables.exec = Jvm.exec) (hb : c.code = cc) (h : xj_sA i nx ls st w = some (pc', ls', st', w')) (hd : xj_dec cc nL pc i nx) (k : xj_Go p l e R s m args below meth c cells slots Q D cl cA A nL ad pc' ls' st' w') : xj_Go p l e R s m args below meth c cells slots Q D cl cA A nL ad pc ls st w := by
  unfold xj_sA at h
  split at h
  · rename_i v hv
    simp only [Option.some.injEq, Prod.mk.injEq] at h
    obtain ⟨rfl, rfl, rfl, rfl⟩ := h
    obtain ⟨len, hdec, hfit⟩ := hd
    intro H locs la hl hP hD hS
    have kk := k H locs la hl hP hD hS
    unfold xj_const at hv
    split at hv
    · cases hv
      simp only [xj_fit, Bool.and_eq_true, decide_eq_true_eq] at hfit
      obtain ⟨rfl, rfl⟩ := hfit
      exact lv_iconst hx hb hdec rfl kk
    · cases hv
      simp only [xj_fit, Bool.and_eq_true, decide_eq_true_eq] at hfit
      obtain ⟨rfl, rfl⟩ := hfit
      exact lv_bipush hx hb hdec rfl kk
    · cases hv
      simp only [xj_fit, Bool.and_eq_true, decide_eq_true_eq] at hfit
      obtain ⟨rfl, rfl⟩ := hfit
      exact lv_sipush hx hb hdec rfl kk
    · cases hv
  · cases h
theorem xj_snB (hx : p.tables.exec = Jvm.exec) (hb : c.code = cc) (h : xj_sB i nx ls st w = some (pc', ls', st', w')) (hd : xj_dec cc nL pc i nx) (k : xj_Go p l e R s m args below meth c cells slots Q D cl cA A nL ad pc' ls' st' w') : xj_Go p l e R s m args below meth c cells slots Q D cl cA A nL ad pc ls st w := by
  unfold xj_sB at h
  split at h
  · rename_i b j hv
    split at h
    · rename_i v hlk
      split at h
      · rename_i hso
        simp only [Option.some.injEq, Prod.mk.injEq] at h
        obtain ⟨rfl, rfl, rfl, rfl⟩ := h
        obtain ⟨len, hdec, hfit⟩ := hd
        intro H locs la hl hP hD hS
        have kk := k H locs la hl hP hD hS
        have hla := xj_lk hl hlk
        unfold xj_load at hv
        split at hv <;> cases hv
        · cases v <;> simp only [xj_sort, Bool.false_eq_true] at hso
          simp only [xj_fit, Bool.and_eq_true, decide_eq_true_eq] at hfit
          obtain ⟨rfl, rfl⟩ := hfit
          exact lv_iload hx hb hdec hla kk
        · cases v <;> simp only [xj_sort, Bool.false_eq_true] at hso
          simp only [xj_fit, Bool.and_eq_true, decide_eq_true_eq] at hfit
          obtain ⟨rfl, rfl⟩ := hfit
          exact lv_iload_n hx hb hdec rfl hla kk
        · cases v <;> simp only [xj_sort, Bool.false_eq_true] at hso
          simp only [xj_fit, Bool.and_eq_true, decide_eq_true_eq] at hfit
          obtain ⟨rfl, rfl⟩ := hfit
          exact lv_aload hx hb hdec hla kk
        · cases v <;> simp only [xj_sort, Bool.false_eq_true] at hso
          simp only [xj_fit, Bool.and_eq_true, decide_eq_true_eq] at hfit
          obtain ⟨rfl, rfl⟩ := hfit
          exact lv_aload_n hx hb hdec rfl hla kk
      · cases h
    · cases h
  · cases h
theorem xj_snC (hx : p.tables.exec = Jvm.exec) (hb : c.code = cc) (h : xj_sC i nx ls st w = some (pc', ls', st', w')) (hd : xj_dec cc nL pc i nx) (k : xj_Go p l e R s m args below meth c cells slots Q D cl cA A nL ad pc' ls' st' w') : xj_Go p l e R s m args below meth c cells slots Q D cl cA A nL ad pc ls st w := by
  unfold xj_sC at h
  split at h
  · rename_i b j v r hv
    split at h
    · rename_i hso
      simp only [Option.some.injEq, Prod.mk.injEq] at h
      obtain ⟨rfl, rfl, rfl, rfl⟩ := h
      obtain ⟨len, hdec, hfit⟩ := hd
      intro H locs la hl hP hD hS
      unfold xj_store at hv
      split at hv <;> cases hv
      · cases v <;> simp only [xj_sort, Bool.false_eq_true] at hso
        simp only [xj_fit, Bool.and_eq_true, decide_eq_true_eq] at hfit
        obtain ⟨⟨rfl, rfl⟩, hn⟩ := hfit
        exact lv_istore hx hb hdec hl hn rfl (fun la' hl' => k H locs la' (by rw [← xj_cl_st1]; exact hl') hP hD hS)
      · cases v <;> simp only [xj_sort, Bool.false_eq_true] at hso
        simp only [xj_fit, Bool.and_eq_true, decide_eq_true_eq] at hfit
        obtain ⟨⟨rfl, rfl⟩, hn⟩ := hfit
        exact lv_istore_n hx hb hdec rfl hl hn rfl (fun la' hl' => k H locs la' (by rw [← xj_cl_st1]; exact hl') hP hD hS)
      · cases v <;> simp only [xj_sort, Bool.false_eq_true] at hso
        simp only [xj_fit, Bool.and_eq_true, decide_eq_true_eq] at hfit
        obtain ⟨⟨rfl, rfl⟩, hn⟩ := hfit
        exact lv_astore hx hb hdec hl hn rfl (fun la' hl' => k H locs la' (by rw [← xj_cl_st1]; exact hl') hP hD hS)
      · cases v <;> simp only [xj_sort, Bool.false_eq_true] at hso
        simp only [xj_fit, Bool.and_eq_true, decide_eq_true_eq] at hfit
        obtain ⟨⟨rfl, rfl⟩, hn⟩ := hfit
        exact lv_astore_n hx hb hdec rfl hl hn rfl (fun la' hl' => k H locs la' (by rw [← xj_cl_st1]; exact hl') hP hD hS)
    · cases h
  · cases h
theorem xj_snD (hx : p.tables.exec = Jvm.exec) (hb : c.code = cc) (h : xj_sD i nx ls st w = some (pc', ls', st', w')) (hd : xj_dec cc nL pc i nx) (k : xj_Go p l e R s m args below meth c cells slots Q D cl cA A nL ad pc' ls' st' w') : xj_Go p l e R s m args below meth c cells slots Q D cl cA A nL ad pc ls st w := by
  unfold xj_sD at h
  split at h
  · rename_i j z
    split at h
    · rename_i x hlk
      simp only [Option.some.injEq, Prod.mk.injEq] at h
      obtain ⟨rfl, rfl, rfl, rfl⟩ := h
      obtain ⟨len, hdec, hfit⟩ := hd
      intro H locs la hl hP hD hS
      simp only [xj_fit, Bool.and_eq_true, decide_eq_true_eq] at hfit
      obtain ⟨⟨rfl, rfl⟩, hn⟩ := hfit
      have hm : (j, Value.int x) ∈ xj_cl ad ls := List.mem_map.mpr ⟨(j, .int x), xj_mem hlk, rfl⟩
      obtain ⟨q, hq⟩ := List.mem_iff_getElem?.mp hm
      exact lv_iinc hx hb hdec hl hq rfl hn rfl (fun la' hl' => k H locs la' (by rw [← xj_cl_st1]; exact hl') hP hD hS)
    · cases h
  · cases h
theorem xj_snE (hx : p.tables.exec = Jvm.exec) (hb : c.code = cc) (h : xj_sE i nx ls st w = some (pc', ls', st', w')) (hd : xj_dec cc nL pc i nx) (k : xj_Go p l e R s m args below meth c cells slots Q D cl cA A nL ad pc' ls' st' w') : xj_Go p l e R s m args below meth c cells slots Q D cl cA A nL ad pc ls st w := by
  unfold xj_sE at h
  split at h
  · rename_i y x r
    split at h
    · rename_i v hv
      simp only [Option.some.injEq, Prod.mk.injEq] at h
      obtain ⟨rfl, rfl, rfl, rfl⟩ := h
      obtain ⟨len, hdec, hfit⟩ := hd
      intro H locs la hl hP hD hS
      have kk := k H locs la hl hP hD hS
      unfold xj_op2 at hv
      split at hv
      case h_9 =>
        split at hv
        · cases hv
        · rename_i hne
          cases hv
          simp only [xj_fit, Bool.and_eq_true, decide_eq_true_eq] at hfit
          obtain ⟨rfl, rfl⟩ := hfit
          exact lv_irem hx hb hdec hne kk
      case h_10 =>
        split at hv
        · cases hv
        · rename_i hne
          cases hv
          simp only [xj_fit, Bool.and_eq_true, decide_eq_true_eq] at hfit
          obtain ⟨rfl, rfl⟩ := hfit
          exact lv_idiv hx hb hdec hne kk
      all_goals cases hv
      all_goals
        simp only [xj_fit, Bool.and_eq_true, decide_eq_true_eq] at hfit
        obtain ⟨rfl, rfl⟩ := hfit
        first
          | exact lv_iadd hx hb hdec kk
          | exact lv_isub hx hb hdec kk
          | exact lv_imul hx hb hdec kk
          | exact lv_iand hx hb hdec kk
          | exact lv_ior hx hb hdec kk
          | exact lv_ixor hx hb hdec kk
          | exact lv_ishl hx hb hdec kk
          | exact lv_ishr hx hb hdec kk
    · cases h
  · cases h
theorem xj_snF (hx : p.tables.exec = Jvm.exec) (hb : c.code = cc) (h : xj_sF i nx ls st w = some (pc', ls', st', w')) (hd : xj_dec cc nL pc i nx) (k : xj_Go p l e R s m args below meth c cells slots Q D cl cA A nL ad pc' ls' st' w') : xj_Go p l e R s m args below meth c cells slots Q D cl cA A nL ad pc ls st w := by
  unfold xj_sF at h
  split at h
  · rename_i st1 hv
    simp only [Option.some.injEq, Prod.mk.injEq] at h
    obtain ⟨rfl, rfl, rfl, rfl⟩ := h
    obtain ⟨len, hdec, hfit⟩ := hd
    intro H locs la hl hP hD hS
    have kk := k H locs la hl hP hD hS
    unfold xj_stk at hv
    split at hv <;> first | cases hv | (split at hv <;> cases hv)
    all_goals
      rename_i hc
      simp only [xj_fit, Bool.and_eq_true, decide_eq_true_eq] at hfit
      obtain ⟨rfl, rfl⟩ := hfit
      first
        | exact lv_dup hx hb hdec (by rw [xj_cv_cat]; exact hc) kk
        | exact lv_pop hx hb hdec (by rw [xj_cv_cat]; exact hc) kk
        | exact lv_dup_x1 hx hb hdec (by rw [xj_cv_cat]; exact hc.1) (by rw [xj_cv_cat]; exact hc.2) kk
        | exact lv_dup_x2 hx hb hdec (by rw [xj_cv_cat]; exact hc.1) (by rw [xj_cv_cat]; exact hc.2.1) (by rw [xj_cv_cat]; exact hc.2.2) kk
        | exact lv_dup2_11 hx hb hdec (by rw [xj_cv_cat]; exact hc.1) (by rw [xj_cv_cat]; exact hc.2) kk
  · cases h
theorem xj_snG (hx : p.tables.exec = Jvm.exec) (hb : c.code = cc) (h : xj_sG i nx pc ls st w = some (pc', ls', st', w')) (hd : xj_dec cc nL pc i nx) (k : xj_Go p l e R s m args below meth c cells slots Q D cl cA A nL ad pc' ls' st' w') : xj_Go p l e R s m args below meth c cells slots Q D cl cA A nL ad pc ls st w := by
  unfold xj_sG at h
  split at h
  · simp only [Option.some.injEq, Prod.mk.injEq] at h
    obtain ⟨rfl, rfl, rfl, rfl⟩ := h
    obtain ⟨len, hdec, hfit⟩ := hd
    intro H locs la hl hP hD hS
    have kk := k H locs la hl hP hD hS
    simp only [xj_fit, Bool.and_eq_true, decide_eq_true_eq] at hfit
    obtain ⟨ht, rfl⟩ := hfit
    exact lv_goto hx hb hdec ht kk
  · rename_i co off
    split at h
    · rename_i x r
      simp only [Option.some.injEq, Prod.mk.injEq] at h
      obtain ⟨rfl, rfl, rfl, rfl⟩ := h
      obtain ⟨len, hdec, hfit⟩ := hd
      intro H locs la hl hP hD hS
      have kk := k H locs la hl hP hD hS
      simp only [xj_fit, Bool.and_eq_true, decide_eq_true_eq] at hfit
      obtain ⟨ht, rfl⟩ := hfit
      cases co
      · exact lv_if_eq hx hb hdec ht (fun q => by rw [if_pos (by simpa [xj_cmp] using q)] at kk; exact kk) (fun q => by rw [if_neg (by simpa [xj_cmp] using q)] at kk; exact kk)
      · exact lv_if_ne hx hb hdec ht (fun q => by rw [if_pos (by simpa [xj_cmp] using q)] at kk; exact kk) (fun q => by rw [if_neg (by simpa [xj_cmp] using q)] at kk; exact kk)
      · exact lv_if_lt hx hb hdec ht (fun q => by rw [if_pos (by simpa only [xj_cmp, decide_eq_true_eq] using q)] at kk; exact kk) (fun q => by rw [if_neg (by simpa only [xj_cmp, decide_eq_true_eq] using q)] at kk; exact kk)
      · exact lv_if_ge hx hb hdec ht (fun q => by rw [if_pos (by simpa only [xj_cmp, decide_eq_true_eq] using q)] at kk; exact kk) (fun q => by rw [if_neg (by simpa only [xj_cmp, decide_eq_true_eq] using q)] at kk; exact kk)
      · exact lv_if_gt hx hb hdec ht (fun q => by rw [if_pos (by simpa only [xj_cmp, decide_eq_true_eq] using q)] at kk; exact kk) (fun q => by rw [if_neg (by simpa only [xj_cmp, decide_eq_true_eq] using q)] at kk; exact kk)
      · exact lv_if_le hx hb hdec ht (fun q => by rw [if_pos (by simpa only [xj_cmp, decide_eq_true_eq] using q)] at kk; exact kk) (fun q => by rw [if_neg (by simpa only [xj_cmp, decide_eq_true_eq] using q)] at kk; exact kk)
    · cases h
  · rename_i co off
    split at h
    · rename_i y x r
      simp only [Option.some.injEq, Prod.mk.injEq] at h
      obtain ⟨rfl, rfl, rfl, rfl⟩ := h
      obtain ⟨len, hdec, hfit⟩ := hd
      intro H locs la hl hP hD hS
      have kk := k H locs la hl hP hD hS
      simp only [xj_fit, Bool.and_eq_true, decide_eq_true_eq] at hfit
      obtain ⟨ht, rfl⟩ := hfit
      cases co
      · exact lv_icmp_eq hx hb hdec ht (fun q => by rw [if_pos (by simpa [xj_cmp] using q)] at kk; exact kk) (fun q => by rw [if_neg (by simpa [xj_cmp] using q)] at kk; exact kk)
      · exact lv_icmp_ne hx hb hdec ht (fun q => by rw [if_pos (by simpa [xj_cmp] using q)] at kk; exact kk) (fun q => by rw [if_neg (by simpa [xj_cmp] using q)] at kk; exact kk)
      · exact lv_icmp_lt hx hb hdec ht (fun q => by rw [if_pos (by simpa only [xj_cmp, decide_eq_true_eq] using q)] at kk; exact kk) (fun q => by rw [if_neg (by simpa only [xj_cmp, decide_eq_true_eq] using q)] at kk; exact kk)
      · exact lv_icmp_ge hx hb hdec ht (fun q => by rw [if_pos (by simpa only [xj_cmp, decide_eq_true_eq] using q)] at kk; exact kk) (fun q => by rw [if_neg (by simpa only [xj_cmp, decide_eq_true_eq] using q)] at kk; exact kk)
      · exact lv_icmp_gt hx hb hdec ht (fun q => by rw [if_pos (by simpa only [xj_cmp, decide_eq_true_eq] using q)] at kk; exact kk) (fun q => by rw [if_neg (by simpa only [xj_cmp, decide_eq_true_eq] using q)] at kk; exact kk)
      · exact lv_icmp_le hx hb hdec ht (fun q => by rw [if_pos (by simpa only [xj_cmp, decide_eq_true_eq] using q)] at kk; exact kk) (fun q => by rw [if_neg (by simpa only [xj_cmp, decide_eq_true_eq] using q)] at kk; exact kk)
    · cases h
  · cases h
end XJ1
