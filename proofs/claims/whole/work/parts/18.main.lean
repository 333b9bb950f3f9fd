/-! OUR MACHINE's RUNS ARE THE MODEL's -/
/-- all that the tables owe -/
def xj_Gl (X : xj_T) (yN : Nat → MethodName) (bt : Nat → ByteArray) (mx : Nat → Nat) (hh : Nat → List (Nat × Nat × Nat × Nat)) (cm wk : List Jvm.Cond) (cl : List vw_C) (stL : List (String × Nat × String)) (ncL : List (String × String)) (ex : Nat → String × List String) : Prop :=
  cm.all goodWord = true ∧ xj_Wk wk ∧
  (∀ mi pc i nx, xj_cd X mi pc = some (i, nx) → xj_dec (bt mi) (mx mi) pc i nx) ∧
  (∀ mi ix ci k so, xj_fl X mi ix = some (ci, k, so) → ∃ (C : String) (T : u_T) (N : Nat) (ty0 : Nat → FieldType), cl[ci]? = some (C, T, N) ∧ (∀ w ∈ u_ws C T N, w ∈ cm) ∧ (∀ k, k < N → parseFieldDescriptor (T k).2.2.1 = some (ty0 k)) ∧ (∀ a, a < N → ∀ b, b < N → a ≠ b → (T a).2.1 ≠ (T b).2.1) ∧ k < N ∧
    Jvm.Cond.fieldLink (yN mi).cls ix (T k).1 (T k).2.1 (T k).2.2.1 ∈ cm ∧
    (so = 0 → ty0 k = .int ∧ (T k).2.2.2 = false) ∧ (so = 1 → ty0 k = .boolean ∧ (T k).2.2.2 = false) ∧ (so = 2 → ((∃ t, ty0 k = .array t) ∨ ∃ n, ty0 k = .object n) ∧ (T k).2.2.2 = true ∧ (T k).1 = (yN mi).cls ∧ (yN mi).name = "<init>")) ∧
  (∀ mi ix a b, xj_ml X mi ix = some (9, a, b) → Jvm.Cond.methodLink (yN mi).cls ix Lib.objectInit ∈ cm ∧ Jvm.Cond.instanceMethod Lib.objectInit ∈ cm ∧ Jvm.Cond.code Lib.objectInit ⟨#[0xb1]⟩ 1 none ∈ cm) ∧
  (∀ mi ix a b, xj_ml X mi ix = some (8, a, b) → Jvm.Cond.methodLink (yN mi).cls ix arraycopyName ∈ cm ∧ Jvm.Cond.native arraycopyName ∈ cm ∧ Jvm.Cond.static arraycopyName ∈ cm ∧ Jvm.Cond.initialized "java/lang/System" ∈ cm) ∧
  (∀ mi ix a, xj_gs X mi ix = some a → a = 1001 ∧ ∃ host, Jvm.Cond.fieldLinkNest (yN mi).cls ix "CaseDesk" "STATE_AFTER" "[I" host ∈ wk) ∧
  (∀ a n f, xj_gv X a = some (n, f) → 1000 ≤ a ∧ a < 2000) ∧
  (∀ mi ix kd y k, xj_ml X mi ix = some (kd, y, k) → kd < 3 → xj_GM X yN bt mx hh cm cl wk mi ix kd y k) ∧
  (∀ mi ix ci fs, xj_nw X mi ix = some (ci, fs) → xj_GN X yN cm cl mi ix ci fs) ∧
  (Jvm.Cond.arrayClass .int ∈ cm ∧ Jvm.Cond.arrayClass .boolean ∈ cm ∧ Jvm.Cond.arrayClass .long ∈ cm) ∧
  (∀ mi pc q, xj_th X mi pc = some q → xj_GT yN bt hh cm wk stL ex mi pc q) ∧
  (∀ mi pc q, xj_ca X mi pc q = some none → hh mi = []) ∧
  (∀ mi pc q hp, xj_ca X mi pc q = some (some hp) → xj_GH yN hh cm wk ncL (ex q).1 mi pc hp)
/-- a frame of ours in the model -/
def xj_At (X : xj_T) (yN : Nat → MethodName) (bt : Nat → ByteArray) (mx : Nat → Nat) (hh : Nat → List (Nat × Nat × Nat × Nat)) (cm : List Jvm.Cond) (mi : Nat) (p : Program) (s : State) (m : MethodId) (args : Array Value) (meth : Method) (c : Code) : Prop :=
  p.tables.exec = Jvm.exec ∧ c.code = bt mi ∧ c.maxLocals = mx mi ∧ meth.sig.returnType = (xj_mt X mi).2 ∧ meth.locks = false ∧ s.vm.findClass (yN mi).cls = some m.cls ∧ meth.name = (yN mi).name ∧ (∀ w ∈ cm, w.before args s = true) ∧ c.exceptionTable.toList = tableOf (hh mi)
/-- what is asked of the end: a return comes to Q; a throw's Q is that of a method -/
def xj_Fin (X : xj_T) (bt : Nat → ByteArray) (mx : Nat → Nat) (ex : Nat → String × List String) (D : va_G) (cl : List vw_C) (cA : FieldType → ClassId) (sz : Nat) (mi : Nat) (p : Program) (l : Launch) (e : Env) (R : Room) (s : State) (m : MethodId) (args : Array Value) (below : List Frame) (meth : Method) (c : Code) (Q : State → Prop) (n0 : Nat) (ad0 : Nat → Nat) (o : Option Value ⊕ Nat) (w' : xj_W) (cells slots : Nat) : Prop :=
  match o with
  | .inl v => ∀ (ad : Nat → Nat) (H : Heap) (locs : List Loc) (la : Array Slot) (pc nx : Nat) (i : Instr) (st : List Value), xj_ag n0 ad0 ad → va_P D cl (xj_cw ad cA w') H → va_D (fun q => sz ≤ q) (xj_cw ad cA w') → va_S (fun q => sz ≤ q) s.heap H locs → xj_dec (bt mi) (mx mi) pc i nx → xj_end X mi i st w' = some (.inl v, w', 0, 0) →
      W p l e R s m args below meth c H locs cells slots Q (F0 m pc la (st.map (xj_cv ad)))
  | .inr q => Q = vx_MQ below xj_No (xj_XC D cl cA (fun q => sz ≤ q) (ex q).1 n0 ad0 w') args s cells slots (fun q => sz ≤ q)
def xj_FS (X : xj_T) (yN : Nat → MethodName) (bt : Nat → ByteArray) (mx : Nat → Nat) (hh : Nat → List (Nat × Nat × Nat × Nat)) (cm wk : List Jvm.Cond) (cl : List vw_C) (stL : List (String × Nat × String)) (ncL : List (String × String)) (ex : Nat → String × List String) (l : Launch) (n : Nat) : Prop :=
  ∀ (d mi pc : Nat) (ls : List (Nat × Value)) (st : List Value) (w : xj_W) (o : Option Value ⊕ Nat) (w' : xj_W) (dc dz : Nat), xj_run X n d mi pc ls st w = some (o, w', dc, dz) →
  ∀ (D : va_G) (cA : FieldType → ClassId) (sz : Nat) (p : Program) (e : Env) (R : Room) (s : State) (m : MethodId) (args : Array Value) (below : List Frame) (meth : Method) (c : Code) (cells slots n0 : Nat) (Q : State → Prop) (ad0 ad : Nat → Nat),
    xj_At X yN bt mx hh cm mi p s m args meth c → xj_Fx X D cl cA (fun q => sz ≤ q) wk stL ncL ad s s.heap → sz ≤ s.heap.size → n0 ≤ w.1.length → xj_ag n0 ad0 ad →
    d + 9 ≤ R.frames → 48 * d + 160 ≤ R.locals → cells + dc ≤ R.cells → slots + dz ≤ R.slots →
    xj_Fin X bt mx ex D cl cA sz mi p l e R s m args below meth c Q n0 ad0 o w' (cells + dc) (slots + dz) →
    xj_Go p l e R s m args below meth c cells slots Q D cl cA (fun q => sz ≤ q) (mx mi) ad pc ls st w
