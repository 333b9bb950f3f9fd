/-! A machine of our own over numbered cells: values are those of the model, but a reference is a number of a cell.
xj_W: the shapes of the cells, their ints, their longs. A shape: an array (type, length), or an object (number of its class, its fields: an int stands for a number, which lies in the ints). -/
abbrev xj_S : Type := (FieldType × Nat) ⊕ (Nat × List Value)
abbrev xj_W : Type := List xj_S × (Nat → Nat → Int32) × (Nat → Nat → Int64)
abbrev xj_F : Type := Nat × List (Nat × Value) × List Value × xj_W
/-- how a call ends: an answer, or the number of an exception's class; the cells behind it; cells and slots made -/
abbrev xj_R : Type := (Option Value ⊕ Nat) × xj_W × Nat × Nat
/-- tables: code (method, pc: instruction, next or target pc); fields (method, index: class, place, sort); calls (method, index: kind, callee, parameters); statics; new; throws; catches; given arrays; methods (class, answer's type); constants -/
abbrev xj_T : Type := (Nat → Nat → Option (Instr × Nat)) × (Nat → Nat → Option (Nat × Nat × Nat)) × (Nat → Nat → Option (Nat × Nat × Nat)) × (Nat → Nat → Option Nat) × (Nat → Nat → Option (Nat × List Value)) × (Nat → Nat → Option Nat) × (Nat → Nat → Nat → Option (Option Nat)) × (Nat → Option (Nat × (Nat → Int32))) × (Nat → Nat × Option FieldType)
abbrev xj_cd (X : xj_T) := X.1
abbrev xj_fl (X : xj_T) := X.2.1
abbrev xj_ml (X : xj_T) := X.2.2.1
abbrev xj_gs (X : xj_T) := X.2.2.2.1
abbrev xj_nw (X : xj_T) := X.2.2.2.2.1
abbrev xj_th (X : xj_T) := X.2.2.2.2.2.1
abbrev xj_ca (X : xj_T) := X.2.2.2.2.2.2.1
abbrev xj_gv (X : xj_T) := X.2.2.2.2.2.2.2.1
abbrev xj_mt (X : xj_T) := X.2.2.2.2.2.2.2.2
def xj_set (σ : Nat → Nat → Int32) (c k : Nat) (x : Int32) : Nat → Nat → Int32 := fun j => if j = c then upd (σ c) k x else σ j
def xj_setL (τ : Nat → Nat → Int64) (c k : Nat) (x : Int64) : Nat → Nat → Int64 := fun j => if j = c then vp_updL (τ c) k x else τ j
def xj_setA (σ : Nat → Nat → Int32) (c : Nat) (f : Nat → Int32) : Nat → Nat → Int32 := fun j => if j = c then f else σ j
/-- a store into the local i of one word -/
def xj_st1 (ls : List (Nat × Value)) (i : Nat) (v : Value) : List (Nat × Value) := (i, v) :: ls.filter (fun q => !(q.1 == i) && !(q.1 + 1 == i && q.2.category == 2))
def xj_const : Instr → Option Value
  | .iconst z => some (.int (Int32.ofInt z))
  | .bipush z => some (.int (Int8.ofInt z).toInt32)
  | .sipush z => some (.int (Int16.ofInt z).toInt32)
  | _ => none
def xj_load : Instr → Option (Bool × Nat)
  | .iload k => some (true, k)
  | .iload_n k => some (true, k.val)
  | .aload k => some (false, k)
  | .aload_n k => some (false, k.val)
  | _ => none
def xj_store : Instr → Option (Bool × Nat)
  | .istore k => some (true, k)
  | .istore_n k => some (true, k.val)
  | .astore k => some (false, k)
  | .astore_n k => some (false, k.val)
  | _ => none
def xj_sort : Bool → Value → Bool
  | true, .int _ => true
  | false, .ref _ => true
  | _, _ => false
def xj_op2 : Instr → Int32 → Int32 → Option Int32
  | .iadd, x, y => some (x + y)
  | .isub, x, y => some (x - y)
  | .imul, x, y => some (x * y)
  | .iand, x, y => some (x &&& y)
  | .ior, x, y => some (x ||| y)
  | .ixor, x, y => some (x ^^^ y)
  | .ishl, x, y => some (x <<< (y &&& 31))
  | .ishr, x, y => some (x >>> (y &&& 31))
  | .irem, x, y => if y = 0 then none else some (x - x / y * y)
  | .idiv, x, y => if y = 0 then none else some (x / y)
  | _, _, _ => none
def xj_stk : Instr → List Value → Option (List Value)
  | .dup, a :: r => if a.category = 1 then some (a :: a :: r) else none
  | .pop, a :: r => if a.category = 1 then some r else none
  | .dup_x1, a :: b :: r => if a.category = 1 ∧ b.category = 1 then some (a :: b :: a :: r) else none
  | .dup_x2, a :: b :: d :: r => if a.category = 1 ∧ b.category = 1 ∧ d.category = 1 then some (a :: b :: d :: a :: r) else none
  | .dup2, a :: b :: r => if a.category = 1 ∧ b.category = 1 then some (a :: b :: a :: b :: r) else none
  | _, _ => none
def xj_cmp : ClassFile.Cond → Int32 → Int32 → Bool
  | .eq, x, y => decide (x = y)
  | .ne, x, y => decide (x ≠ y)
  | .lt, x, y => decide (x < y)
  | .ge, x, y => decide (y ≤ x)
  | .gt, x, y => decide (y < x)
  | .le, x, y => decide (x ≤ y)
def xj_sA (i : Instr) (nx : Nat) (ls : List (Nat × Value)) (st : List Value) (w : xj_W) : Option xj_F :=
  match xj_const i with
  | some v => some (nx, ls, v :: st, w)
  | none => none
def xj_sB (i : Instr) (nx : Nat) (ls : List (Nat × Value)) (st : List Value) (w : xj_W) : Option xj_F :=
  match xj_load i with
  | some (b, k) => match ls.lookup k with
    | some v => if xj_sort b v = true then some (nx, ls, v :: st, w) else none
    | none => none
  | none => none
def xj_sC (i : Instr) (nx : Nat) (ls : List (Nat × Value)) (st : List Value) (w : xj_W) : Option xj_F :=
  match xj_store i, st with
  | some (b, k), v :: r => if xj_sort b v = true then some (nx, xj_st1 ls k v, r, w) else none
  | _, _ => none
def xj_sD (i : Instr) (nx : Nat) (ls : List (Nat × Value)) (st : List Value) (w : xj_W) : Option xj_F :=
  match i with
  | .iinc k z => match ls.lookup k with
    | some (.int x) => some (nx, xj_st1 ls k (.int (x + Int32.ofInt z)), st, w)
    | _ => none
  | _ => none
def xj_sE (i : Instr) (nx : Nat) (ls : List (Nat × Value)) (st : List Value) (w : xj_W) : Option xj_F :=
  match st with
  | .int y :: .int x :: r => match xj_op2 i x y with
    | some v => some (nx, ls, .int v :: r, w)
    | none => none
  | _ => none
def xj_sF (i : Instr) (nx : Nat) (ls : List (Nat × Value)) (st : List Value) (w : xj_W) : Option xj_F :=
  match xj_stk i st with
  | some st' => some (nx, ls, st', w)
  | none => none
def xj_sG (i : Instr) (nx pc : Nat) (ls : List (Nat × Value)) (st : List Value) (w : xj_W) : Option xj_F :=
  match i with
  | .goto _ => some (nx, ls, st, w)
  | .ifCond c _ => match st with
    | .int x :: r => some (if xj_cmp c x 0 = true then nx else pc + 3, ls, r, w)
    | _ => none
  | .if_icmp c _ => match st with
    | .int y :: .int x :: r => some (if xj_cmp c x y = true then nx else pc + 3, ls, r, w)
    | _ => none
  | _ => none
/-- where a jump by off lands -/
def xj_to (pc : Nat) (off : Int) : Option Nat := if 0 ≤ (pc : Int) + off then some ((pc : Int) + off).toNat else none
def xj_sH (i : Instr) (pc : Nat) (ls : List (Nat × Value)) (st : List Value) (w : xj_W) : Option xj_F :=
  match i, st with
  | .tableswitch dflt lo hi offs, .int x :: r =>
    if x.toInt < lo ∨ hi < x.toInt then (xj_to pc dflt).map fun t => (t, ls, r, w)
    else match offs[(x.toInt - lo).toNat]? with
      | some off => (xj_to pc off).map fun t => (t, ls, r, w)
      | none => none
  | .lookupswitch dflt ps, .int x :: r =>
    if (ps.toList.zip (ps.toList.drop 1)).all (fun (a, next) => a.1 < next.1) = true then (xj_to pc (Op.lookupswitch.offset ps.toList dflt x.toInt)).map fun t => (t, ls, r, w) else none
  | _, _ => none
def xj_sI (i : Instr) (nx : Nat) (ls : List (Nat × Value)) (st : List Value) (w : xj_W) : Option xj_F :=
  match i, st with
  | .i2l, .int x :: r => some (nx, ls, .long x.toInt64 :: r, w)
  | .lcmp, .long y :: .long x :: r => some (nx, ls, .int (lg_cmp x y) :: r, w)
  | .laload, .int j :: .ref c :: r => match w.1[c]? with
    | some (.inl (.long, n)) => if j < 0 ∨ n ≤ j.toNatClampNeg then none else some (nx, ls, .long (w.2.2 c j.toNatClampNeg) :: r, w)
    | _ => none
  | .lastore, .long x :: .int j :: .ref c :: r => match w.1[c]? with
    | some (.inl (.long, n)) => if j < 0 ∨ n ≤ j.toNatClampNeg then none else some (nx, ls, r, (w.1, w.2.1, xj_setL w.2.2 c j.toNatClampNeg x))
    | _ => none
  | _, _ => none
def xj_sJ (X : xj_T) (m : Nat) (i : Instr) (nx : Nat) (ls : List (Nat × Value)) (st : List Value) (w : xj_W) : Option xj_F :=
  match i, st with
  | .getfield ix, .ref c :: r => match xj_fl X m ix, w.1[c]? with
    | some (ci, k, _), some (.inr (cj, fs)) => if cj = ci then match fs[k]? with
        | some (.int _) => some (nx, ls, .int (w.2.1 c k) :: r, w)
        | some (.ref a) => some (nx, ls, .ref a :: r, w)
        | _ => none
      else none
    | _, _ => none
  | .putfield ix, .int x :: .ref c :: r => match xj_fl X m ix, w.1[c]? with
    | some (ci, k, so), some (.inr (cj, fs)) => if cj = ci then match fs[k]? with
        | some (.int _) => if so = 0 ∨ (so = 1 ∧ (x = 0 ∨ x = 1)) then some (nx, ls, r, (w.1, xj_set w.2.1 c k x, w.2.2)) else none
        | _ => none
      else none
    | _, _ => none
  | .putfield ix, .ref a :: .ref c :: r => match xj_fl X m ix, w.1[c]? with
    | some (ci, k, so), some (.inr (cj, fs)) => if cj = ci then match fs[k]? with
        | some .null => if so = 2 then some (nx, ls, r, (w.1.set c (.inr (cj, fs.set k (.ref a))), w.2.1, w.2.2)) else none
        | _ => none
      else none
    | _, _ => none
  | .getstatic ix, r => match xj_gs X m ix with
    | some a => some (nx, ls, .ref a :: r, w)
    | none => none
  | _, _ => none
def xj_sL (X : xj_T) (i : Instr) (nx : Nat) (ls : List (Nat × Value)) (st : List Value) (w : xj_W) : Option xj_F :=
  match i, st with
  | .iaload, .int j :: .ref c :: r => match w.1[c]? with
    | some (.inl (.int, n)) => if j < 0 ∨ n ≤ j.toNatClampNeg then none else some (nx, ls, .int (w.2.1 c j.toNatClampNeg) :: r, w)
    | some _ => none
    | none => match xj_gv X c with
      | some (n, f) => if j < 0 ∨ n ≤ j.toNatClampNeg then none else some (nx, ls, .int (f j.toNatClampNeg) :: r, w)
      | none => none
  | .baload, .int j :: .ref c :: r => match w.1[c]? with
    | some (.inl (.boolean, n)) => if j < 0 ∨ n ≤ j.toNatClampNeg then none else some (nx, ls, .int (w.2.1 c j.toNatClampNeg) :: r, w)
    | _ => none
  | .iastore, .int x :: .int j :: .ref c :: r => match w.1[c]? with
    | some (.inl (.int, n)) => if j < 0 ∨ n ≤ j.toNatClampNeg then none else some (nx, ls, r, (w.1, xj_set w.2.1 c j.toNatClampNeg x, w.2.2))
    | _ => none
  | .bastore, .int x :: .int j :: .ref c :: r => match w.1[c]? with
    | some (.inl (.boolean, n)) => if j < 0 ∨ n ≤ j.toNatClampNeg then none else some (nx, ls, r, (w.1, xj_set w.2.1 c j.toNatClampNeg (x &&& 1), w.2.2))
    | _ => none
  | .arraylength, .ref c :: r => match w.1[c]? with
    | some (.inl (.int, n)) => some (nx, ls, .int (Int32.ofNat n) :: r, w)
    | some _ => none
    | none => match xj_gv X c with
      | some (n, _) => some (nx, ls, .int (Int32.ofNat n) :: r, w)
      | none => none
  | _, _ => none
/-- Object.<init> (kind 9), System.arraycopy of ints (kind 8) -/
def xj_sM (X : xj_T) (m : Nat) (i : Instr) (nx : Nat) (ls : List (Nat × Value)) (st : List Value) (w : xj_W) : Option xj_F :=
  match i, st with
  | .invokespecial ix, .ref _ :: r => match xj_ml X m ix with
    | some (9, _, _) => if (r.map fun v => v.category).sum ≤ 8 then some (nx, ls, r, w) else none
    | _ => none
  | .invokestatic ix, .int n :: .int dp :: .ref b :: .int sp :: .ref a :: r => match xj_ml X m ix, w.1[a]?, w.1[b]? with
    | some (8, _, _), some (.inl (.int, na)), some (.inl (.int, nb)) =>
      if sp < 0 ∨ dp < 0 ∨ n < 0 ∨ na < sp.toNatClampNeg + n.toNatClampNeg ∨ nb < dp.toNatClampNeg + n.toNatClampNeg ∨ 8 < (r.map fun v => v.category).sum then none
      else some (nx, ls, r, (w.1, xj_setA w.2.1 b (va_cpy (w.2.1 a) (w.2.1 b) sp.toNatClampNeg dp.toNatClampNeg n.toNatClampNeg), w.2.2))
    | _, _, _ => none
  | _, _ => none
def xj_or (a b : Option xj_F) : Option xj_F := match a with
  | some r => some r
  | none => b
def xj_step (X : xj_T) (m : Nat) (i : Instr) (nx pc : Nat) (ls : List (Nat × Value)) (st : List Value) (w : xj_W) : Option xj_F :=
  xj_or (xj_sA i nx ls st w) (xj_or (xj_sB i nx ls st w) (xj_or (xj_sC i nx ls st w) (xj_or (xj_sD i nx ls st w) (xj_or (xj_sE i nx ls st w) (xj_or (xj_sF i nx ls st w) (xj_or (xj_sG i nx pc ls st w)
    (xj_or (xj_sJ X m i nx ls st w) (xj_or (xj_sL X i nx ls st w) (xj_or (xj_sH i pc ls st w) (xj_or (xj_sI i nx ls st w) (xj_sM X m i nx ls st w)))))))))))
/-- the end of a call -/
def xj_end (X : xj_T) (m : Nat) (i : Instr) (st : List Value) (w : xj_W) : Option xj_R :=
  match i, st with
  | .return_, [] => match (xj_mt X m).2 with
    | none => some (.inl none, w, 0, 0)
    | some _ => none
  | .ireturn, [.int v] => match (xj_mt X m).2 with
    | some .int => some (.inl (some (.int v)), w, 0, 0)
    | some .boolean => if v = 0 ∨ v = 1 then some (.inl (some (.int v)), w, 0, 0) else none
    | _ => none
  | _, _ => none
/-- references that may be carried on while cells are made: below n, or given arrays -/
def xj_ok (n : Nat) : Value → Bool
  | .ref a => decide (a < n) || (decide (1000 ≤ a) && decide (a < 2000))
  | _ => true
def xj_one (av : List Value) : Bool := av.all fun v => v.category == 1
def xj_safe (n : Nat) (ls : List (Nat × Value)) (st : List Value) : Bool := ls.all (fun q => xj_ok n q.2) && st.all (xj_ok n)
/-- a call: kind (0 static, 1 on a receiver of the callee's class, 2 a constructor), callee, arguments, what is left on the stack -/
def xj_inv (X : xj_T) (m : Nat) (i : Instr) (st : List Value) (w : xj_W) : Option (Nat × Nat × List Value × List Value) :=
  match i with
  | .invokestatic ix => match xj_ml X m ix with
    | some (0, y, k) => if k ≤ st.length ∧ ((st.drop k).map fun v => v.category).sum ≤ 8 then some (0, y, (st.take k).reverse, st.drop k) else none
    | _ => none
  | .invokevirtual ix => match xj_ml X m ix with
    | some (1, y, k) => match st.drop k with
      | .ref c :: r => match w.1[c]? with
        | some (.inr (cj, _)) => if cj = (xj_mt X y).1 ∧ (r.map fun v => v.category).sum ≤ 8 then some (1, y, .ref c :: (st.take k).reverse, r) else none
        | _ => none
      | _ => none
    | _ => none
  | .invokespecial ix => match xj_ml X m ix with
    | some (2, y, k) => match st.drop k with
      | .ref c :: r => if (r.map fun v => v.category).sum ≤ 8 then some (2, y, .ref c :: (st.take k).reverse, r) else none
      | _ => none
    | _ => none
  | _ => none
/-- new cells: the type and the length, or the class and its fields -/
def xj_mk (X : xj_T) (m : Nat) (i : Instr) (st : List Value) : Option (xj_S × Nat × List Value) :=
  match i with
  | .new ix => match xj_nw X m ix with
    | some (ci, fs) => some (.inr (ci, fs), fs.length, st)
    | none => none
  | .newarray t => match st with
    | .int k :: r => if k < 0 ∨ 4096 < k.toNatClampNeg then none else match t with
      | .int => some (.inl (.int, k.toNatClampNeg), k.toNatClampNeg, r)
      | .boolean => some (.inl (.boolean, k.toNatClampNeg), k.toNatClampNeg, r)
      | .long => some (.inl (.long, k.toNatClampNeg), k.toNatClampNeg, r)
      | _ => none
    | _ => none
  | _ => none
def xj_add (c z : Nat) (r : Option xj_R) : Option xj_R := match r with
  | some (o, w, c1, z1) => some (o, w, c + c1, z + z1)
  | none => none
/-- no field leads out of the cells -/
def xj_wok (w : xj_W) : Bool := decide (w.1.length < 1000) && w.1.all fun sh => match sh with
  | .inr (_, fs) => fs.all (xj_ok w.1.length)
  | .inl _ => true
/-- one step of the machine, over what the rest does -/
def xj_lay (X : xj_T) (f : Nat → Nat → Nat → List (Nat × Value) → List Value → xj_W → Option xj_R) (d m pc : Nat) (ls : List (Nat × Value)) (st : List Value) (w : xj_W) : Option xj_R :=
  match xj_cd X m pc with
  | none => none
  | some (i, nx) =>
    match xj_step X m i nx pc ls st w with
    | some (pc', ls', st', w') => f d m pc' ls' st' w'
    | none =>
    match xj_inv X m i st w with
    | some (kd, y, av, rest) =>
      if d ≠ 0 ∧ xj_safe w.1.length ls rest = true ∧ xj_one av = true then
        match f (d - 1) y 0 (lv_args 0 av) [] w with
        | none => none
        | some (.inl v, w', c, z) => xj_add c z (f d m nx ls (v.toList ++ rest) w')
        | some (.inr q, w', c, z) => match xj_ca X m pc q with
          | some (some h) => if kd = 1 ∧ xj_wok w' = true then xj_add c z (f d m h ls [.ref 4096] w') else none
          | some none => if kd = 1 then some (.inr q, w', c, z) else none
          | none => none
      else none
    | none =>
    match xj_end X m i st w with
    | some r => some r
    | none =>
    match xj_th X m pc with
    | some q => if st.isEmpty = true then some (.inr q, w, 1, 6) else none
    | none =>
    match xj_mk X m i st with
    | some (sh, z, rest) =>
      if xj_safe w.1.length ls rest = true ∧ xj_wok w = true then
        xj_add 1 z (f d m nx ls (.ref w.1.length :: rest) (w.1 ++ [sh], xj_setA w.2.1 w.1.length (fun _ => 0), fun j => if j = w.1.length then (fun _ => 0) else w.2.2 j))
      else none
    | none => none
def xj_run (X : xj_T) : Nat → Nat → Nat → Nat → List (Nat × Value) → List Value → xj_W → Option xj_R
  | 0 => fun _ _ _ _ _ _ => none
  | n + 1 => xj_lay X (xj_run X n)
theorem xj_run_succ (X : xj_T) (n : Nat) : xj_run X (n + 1) = xj_lay X (xj_run X n) := rfl
theorem xj_add_some {c z : Nat} {r : Option xj_R} {q : xj_R} (h : xj_add c z r = some q) : ∃ o w c1 z1, r = some (o, w, c1, z1) ∧ q = (o, w, c + c1, z + z1) := by
  cases r with
  | none => simp [xj_add] at h
  | some p =>
    obtain ⟨o, w, c1, z1⟩ := p
    simp only [xj_add, Option.some.injEq] at h
    exact ⟨o, w, c1, z1, rfl, h.symm⟩
/-- more room changes no answer -/
theorem xj_mono (X : xj_T) : ∀ (n n' d d' m pc : Nat) (ls : List (Nat × Value)) (st : List Value) (w : xj_W) (r : xj_R), n ≤ n' → d ≤ d' → xj_run X n d m pc ls st w = some r → xj_run X n' d' m pc ls st w = some r := by
  intro n
  induction n with
  | zero => intro n' d d' m pc ls st w r _ _ h; simp [xj_run] at h
  | succ n ih =>
    intro n' d d' m pc ls st w r hn hd h
    cases n' with
    | zero => omega
    | succ n' =>
      have hn' : n ≤ n' := by omega
      rw [xj_run_succ] at h ⊢
      unfold xj_lay at h ⊢
      cases hcd : xj_cd X m pc with
      | none => simp [hcd] at h
      | some q =>
        obtain ⟨i, nx⟩ := q
        simp only [hcd] at h ⊢
        cases hs : xj_step X m i nx pc ls st w with
        | some f =>
          obtain ⟨pc', ls', st', w'⟩ := f
          simp only [hs] at h ⊢
          exact ih _ _ _ _ _ _ _ _ _ hn' hd h
        | none =>
          simp only [hs] at h ⊢
          cases hi : xj_inv X m i st w with
          | some f =>
            obtain ⟨kd, y, av, rest⟩ := f
            simp only [hi] at h ⊢
            by_cases hc : d ≠ 0 ∧ xj_safe w.1.length ls rest = true ∧ xj_one av = true
            · rw [if_pos hc] at h
              rw [if_pos ⟨by omega, hc.2⟩]
              cases hy : xj_run X n (d - 1) y 0 (lv_args 0 av) [] w with
              | none => simp [hy] at h
              | some f =>
                obtain ⟨o, w', c, z⟩ := f
                rw [ih _ _ _ _ _ _ _ _ _ hn' (by omega : d - 1 ≤ d' - 1) hy]
                simp only [hy] at h
                cases o with
                | inl v =>
                  simp only at h ⊢
                  obtain ⟨o, w1, c1, z1, h1, h2⟩ := xj_add_some h
                  rw [ih _ _ _ _ _ _ _ _ _ hn' hd h1, h2]
                  rfl
                | inr q =>
                  simp only at h ⊢
                  cases hca : xj_ca X m pc q with
                  | none => simp [hca] at h
                  | some hp0 =>
                   cases hp0 with
                   | none => simpa only [hca] using h
                   | some hp =>
                    simp only [hca] at h ⊢
                    split at h
                    · rename_i hwk
                      rw [if_pos hwk]
                      obtain ⟨o, w1, c1, z1, h1, h2⟩ := xj_add_some h
                      rw [ih _ _ _ _ _ _ _ _ _ hn' hd h1, h2]
                      rfl
                    · cases h
            · rw [if_neg hc] at h
              cases h
          | none =>
            simp only [hi] at h ⊢
            cases he : xj_end X m i st w with
            | some f => simpa only [he] using h
            | none =>
              simp only [he] at h ⊢
              cases ht : xj_th X m pc with
              | some q => simpa only [ht] using h
              | none =>
                simp only [ht] at h ⊢
                cases hk : xj_mk X m i st with
                | none => simp [hk] at h
                | some f =>
                  obtain ⟨sh, z, rest⟩ := f
                  simp only [hk] at h ⊢
                  by_cases hc : xj_safe w.1.length ls rest = true ∧ xj_wok w = true
                  · rw [if_pos hc] at h ⊢
                    obtain ⟨o, w1, c1, z1, h1, h2⟩ := xj_add_some h
                    rw [ih _ _ _ _ _ _ _ _ _ hn' hd h1, h2]
                    rfl
                  · rw [if_neg hc] at h
                    cases h
/-- from this frame our machine comes to an end with P -/
def xj_E (X : xj_T) (d m pc : Nat) (ls : List (Nat × Value)) (st : List Value) (w : xj_W) (P : (Option Value ⊕ Nat) → xj_W → Nat → Nat → Prop) : Prop :=
  ∃ (n : Nat) (o : Option Value ⊕ Nat) (w' : xj_W) (c z : Nat), xj_run X n d m pc ls st w = some (o, w', c, z) ∧ P o w' c z
theorem xj_E.mono {X : xj_T} {d m pc : Nat} {ls : List (Nat × Value)} {st : List Value} {w : xj_W} {P Q : (Option Value ⊕ Nat) → xj_W → Nat → Nat → Prop} (h : xj_E X d m pc ls st w P) (hPQ : ∀ o w c z, P o w c z → Q o w c z) : xj_E X d m pc ls st w Q := by
  obtain ⟨n, o, w', c, z, h1, h2⟩ := h
  exact ⟨n, o, w', c, z, h1, hPQ _ _ _ _ h2⟩
theorem xj_E.deep {X : xj_T} {d d' m pc : Nat} {ls : List (Nat × Value)} {st : List Value} {w : xj_W} {P : (Option Value ⊕ Nat) → xj_W → Nat → Nat → Prop} (h : xj_E X d m pc ls st w P) (hd : d ≤ d') : xj_E X d' m pc ls st w P := by
  obtain ⟨n, o, w', c, z, h1, h2⟩ := h
  exact ⟨n, o, w', c, z, xj_mono X _ _ _ _ _ _ _ _ _ _ (Nat.le_refl _) hd h1, h2⟩
/-- plain steps in a row -/
def xj_adv (X : xj_T) (m : Nat) : Nat → xj_F → Option xj_F
  | 0, f => some f
  | k + 1, (pc, ls, st, w) => match xj_cd X m pc with
    | none => none
    | some (i, nx) => match xj_step X m i nx pc ls st w with
      | some f => xj_adv X m k f
      | none => none
theorem xj_E.one {X : xj_T} {d m pc pc' nx : Nat} {ls ls' : List (Nat × Value)} {st st' : List Value} {w w' : xj_W} {P : (Option Value ⊕ Nat) → xj_W → Nat → Nat → Prop} {i : Instr} (hcd : xj_cd X m pc = some (i, nx)) (hs : xj_step X m i nx pc ls st w = some (pc', ls', st', w')) (h : xj_E X d m pc' ls' st' w' P) : xj_E X d m pc ls st w P := by
  obtain ⟨n, o, w1, c, z, h1, h2⟩ := h
  refine ⟨n + 1, o, w1, c, z, ?_, h2⟩
  rw [xj_run_succ]
  unfold xj_lay
  simp only [hcd, hs]
  exact h1
theorem xj_E.adv {X : xj_T} {d m : Nat} {P : (Option Value ⊕ Nat) → xj_W → Nat → Nat → Prop} : ∀ (k : Nat) {pc pc' : Nat} {ls ls' : List (Nat × Value)} {st st' : List Value} {w w' : xj_W}, xj_adv X m k (pc, ls, st, w) = some (pc', ls', st', w') → xj_E X d m pc' ls' st' w' P → xj_E X d m pc ls st w P := by
  intro k
  induction k with
  | zero =>
    intro pc pc' ls ls' st st' w w' h hE
    simp only [xj_adv, Option.some.injEq, Prod.mk.injEq] at h
    obtain ⟨rfl, rfl, rfl, rfl⟩ := h
    exact hE
  | succ k ih =>
    intro pc pc' ls ls' st st' w w' h hE
    simp only [xj_adv] at h
    cases hcd : xj_cd X m pc with
    | none => simp [hcd] at h
    | some q =>
      obtain ⟨i, nx⟩ := q
      simp only [hcd] at h
      cases hs : xj_step X m i nx pc ls st w with
      | none => simp [hs] at h
      | some f =>
        obtain ⟨pc1, ls1, st1, w1⟩ := f
        simp only [hs] at h
        exact xj_E.one hcd hs (ih h hE)
theorem xj_E.ite {X : xj_T} {d m a b : Nat} {ls : List (Nat × Value)} {st : List Value} {w : xj_W} {P : (Option Value ⊕ Nat) → xj_W → Nat → Nat → Prop} {c : Prop} [Decidable c] (ht : c → xj_E X d m a ls st w P) (hf : ¬ c → xj_E X d m b ls st w P) : xj_E X d m (if c then a else b) ls st w P := by
  by_cases h : c
  · rw [if_pos h]; exact ht h
  · rw [if_neg h]; exact hf h
theorem xj_E.ret {X : xj_T} {d m pc nx : Nat} {ls : List (Nat × Value)} {st : List Value} {w w' : xj_W} {P : (Option Value ⊕ Nat) → xj_W → Nat → Nat → Prop} {i : Instr} {o : Option Value ⊕ Nat} {c z : Nat} (hcd : xj_cd X m pc = some (i, nx)) (hs : xj_step X m i nx pc ls st w = none) (hi : xj_inv X m i st w = none) (he : xj_end X m i st w = some (o, w', c, z)) (h : P o w' c z) : xj_E X d m pc ls st w P := by
  refine ⟨1, o, w', c, z, ?_, h⟩
  rw [xj_run_succ]
  unfold xj_lay
  simp only [hcd, hs, hi, he]
theorem xj_E.thr {X : xj_T} {d m pc nx : Nat} {ls : List (Nat × Value)} {w : xj_W} {P : (Option Value ⊕ Nat) → xj_W → Nat → Nat → Prop} {i : Instr} {q : Nat} (hcd : xj_cd X m pc = some (i, nx)) (hs : xj_step X m i nx pc ls [] w = none) (hi : xj_inv X m i [] w = none) (he : xj_end X m i [] w = none) (ht : xj_th X m pc = some q) (h : P (.inr q) w 1 6) : xj_E X d m pc ls [] w P := by
  refine ⟨1, .inr q, w, 1, 6, ?_, h⟩
  rw [xj_run_succ]
  unfold xj_lay
  simp only [hcd, hs, hi, he, ht, List.isEmpty_nil, if_true]
theorem xj_E.call {X : xj_T} {d m pc nx kd y : Nat} {ls : List (Nat × Value)} {st av rest : List Value} {w : xj_W} {P : (Option Value ⊕ Nat) → xj_W → Nat → Nat → Prop} {i : Instr} (hcd : xj_cd X m pc = some (i, nx)) (hs : xj_step X m i nx pc ls st w = none) (hi : xj_inv X m i st w = some (kd, y, av, rest)) (hsf : xj_safe w.1.length ls rest = true) (hon : xj_one av = true)
    (h : xj_E X d y 0 (lv_args 0 av) [] w (fun o w' c z => match o with
      | .inl v => xj_E X (d + 1) m nx ls (v.toList ++ rest) w' (fun o2 w2 c2 z2 => P o2 w2 (c + c2) (z + z2))
      | .inr q => kd = 1 ∧ match xj_ca X m pc q with
        | some (some hp) => xj_wok w' = true ∧ xj_E X (d + 1) m hp ls [.ref 4096] w' (fun o2 w2 c2 z2 => P o2 w2 (c + c2) (z + z2))
        | some none => P (.inr q) w' c z
        | none => False)) : xj_E X (d + 1) m pc ls st w P := by
  obtain ⟨n, o, w1, c, z, h1, h2⟩ := h
  cases o with
  | inl v =>
    obtain ⟨n2, o2, w2, c2, z2, h3, h4⟩ := h2
    refine ⟨max n n2 + 1, o2, w2, c + c2, z + z2, ?_, h4⟩
    rw [xj_run_succ]
    unfold xj_lay
    simp only [hcd, hs, hi]
    rw [if_pos ⟨by omega, hsf, hon⟩]
    have e1 := xj_mono X _ (max n n2) _ (d + 1 - 1) _ _ _ _ _ _ (Nat.le_max_left _ _) (Nat.le_refl d) h1
    have e2 := xj_mono X _ (max n n2) _ (d + 1) _ _ _ _ _ _ (Nat.le_max_right _ _) (Nat.le_refl _) h3
    simp only [e1, e2, xj_add]
  | inr q =>
    obtain ⟨hkd, h2⟩ := h2
    cases hca : xj_ca X m pc q with
    | none => simp [hca] at h2
    | some hp0 =>
     cases hp0 with
     | none =>
      simp only [hca] at h2
      refine ⟨n + 1, .inr q, w1, c, z, ?_, h2⟩
      rw [xj_run_succ]
      unfold xj_lay
      simp only [hcd, hs, hi]
      rw [if_pos ⟨by omega, hsf, hon⟩]
      have e1 := xj_mono X _ n _ (d + 1 - 1) _ _ _ _ _ _ (Nat.le_refl _) (Nat.le_refl d) h1
      simp only [e1, hca, hkd, if_true]
     | some hp =>
      simp only [hca] at h2
      obtain ⟨hwk, n2, o2, w2, c2, z2, h3, h4⟩ := h2
      refine ⟨max n n2 + 1, o2, w2, c + c2, z + z2, ?_, h4⟩
      rw [xj_run_succ]
      unfold xj_lay
      simp only [hcd, hs, hi]
      rw [if_pos ⟨by omega, hsf, hon⟩]
      have e1 := xj_mono X _ (max n n2) _ (d + 1 - 1) _ _ _ _ _ _ (Nat.le_max_left _ _) (Nat.le_refl d) h1
      have e2 := xj_mono X _ (max n n2) _ (d + 1) _ _ _ _ _ _ (Nat.le_max_right _ _) (Nat.le_refl _) h3
      simp only [e1, hca, hkd, hwk, and_self, if_true, e2, xj_add]
