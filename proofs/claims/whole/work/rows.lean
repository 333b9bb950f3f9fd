section
/-! A machine of our own over numbered cells: values are those of the model, but a reference is a number of a cell.
xj_W: the shapes of the cells, their ints, their longs. A shape: an array (type, length), or an object (number of its class, its fields: an int stands for a number, which lies in the ints). -/
abbrev xj_S : Type := (FieldType × Nat) ⊕ (Nat × List Value)
abbrev xj_W : Type := List xj_S × (Nat → Nat → Int32) × (Nat → Nat → Int64)
abbrev xj_F : Type := Nat × List (Nat × Value) × List Value × xj_W
/-- how a call ends: an answer, or the number of an exception's class; the cells behind it; cells and slots made -/
abbrev xj_R : Type := (Option Value ⊕ Nat) × xj_W × Nat × Nat
/-- tables: code (method, pc: instruction, next or target pc); fields (method, index: class, place, sort); calls (method, index: kind, callee, parameters); statics; new; throws; catches; given arrays; methods (class, answer's type); constants -/
abbrev xj_T : Type := (Nat → Nat → Option (Instr × Nat)) × (Nat → Nat → Option (Nat × Nat × Nat)) × (Nat → Nat → Option (Nat × Nat × Nat)) × (Nat → Nat → Option Nat) × (Nat → Nat → Option (Nat × List Value)) × (Nat → Nat → Option Nat) × (Nat → Nat → Nat → Option (Option Nat)) × (Nat → Option (Nat × (Nat → Int32))) × (Nat → Nat × Option FieldType)
abbrev xj_cd (X : xj_T) := X.1
abbrev xj_fl (X : xj_T) := X.2.1
abbrev xj_ml (X : xj_T) := X.2.2.1
abbrev xj_gs (X : xj_T) := X.2.2.2.1
abbrev xj_nw (X : xj_T) := X.2.2.2.2.1
abbrev xj_th (X : xj_T) := X.2.2.2.2.2.1
abbrev xj_ca (X : xj_T) := X.2.2.2.2.2.2.1
abbrev xj_gv (X : xj_T) := X.2.2.2.2.2.2.2.1
abbrev xj_mt (X : xj_T) := X.2.2.2.2.2.2.2.2
def xj_set (σ : Nat → Nat → Int32) (c k : Nat) (x : Int32) : Nat → Nat → Int32 := fun j => if j = c then upd (σ c) k x else σ j
def xj_setL (τ : Nat → Nat → Int64) (c k : Nat) (x : Int64) : Nat → Nat → Int64 := fun j => if j = c then vp_updL (τ c) k x else τ j
def xj_setA (σ : Nat → Nat → Int32) (c : Nat) (f : Nat → Int32) : Nat → Nat → Int32 := fun j => if j = c then f else σ j
/-- a store into the local i of one word -/
def xj_st1 (ls : List (Nat × Value)) (i : Nat) (v : Value) : List (Nat × Value) := (i, v) :: ls.filter (fun q => !(q.1 == i) && !(q.1 + 1 == i && q.2.category == 2))
def xj_const : Instr → Option Value
  | .iconst z => some (.int (Int32.ofInt z))
  | .bipush z => some (.int (Int8.ofInt z).toInt32)
  | .sipush z => some (.int (Int16.ofInt z).toInt32)
  | _ => none
def xj_load : Instr → Option (Bool × Nat)
  | .iload k => some (true, k)
  | .iload_n k => some (true, k.val)
  | .aload k => some (false, k)
  | .aload_n k => some (false, k.val)
  | _ => none
def xj_store : Instr → Option (Bool × Nat)
  | .istore k => some (true, k)
  | .istore_n k => some (true, k.val)
  | .astore k => some (false, k)
  | .astore_n k => some (false, k.val)
  | _ => none
def xj_sort : Bool → Value → Bool
  | true, .int _ => true
  | false, .ref _ => true
  | _, _ => false
def xj_op2 : Instr → Int32 → Int32 → Option Int32
  | .iadd, x, y => some (x + y)
  | .isub, x, y => some (x - y)
  | .imul, x, y => some (x * y)
  | .iand, x, y => some (x &&& y)
  | .ior, x, y => some (x ||| y)
  | .ixor, x, y => some (x ^^^ y)
  | .ishl, x, y => some (x <<< (y &&& 31))
  | .ishr, x, y => some (x >>> (y &&& 31))
  | .irem, x, y => if y = 0 then none else some (x - x / y * y)
  | .idiv, x, y => if y = 0 then none else some (x / y)
  | _, _, _ => none
def xj_stk : Instr → List Value → Option (List Value)
  | .dup, a :: r => if a.category = 1 then some (a :: a :: r) else none
  | .pop, a :: r => if a.category = 1 then some r else none
  | .dup_x1, a :: b :: r => if a.category = 1 ∧ b.category = 1 then some (a :: b :: a :: r) else none
  | .dup_x2, a :: b :: d :: r => if a.category = 1 ∧ b.category = 1 ∧ d.category = 1 then some (a :: b :: d :: a :: r) else none
  | .dup2, a :: b :: r => if a.category = 1 ∧ b.category = 1 then some (a :: b :: a :: b :: r) else none
  | _, _ => none
def xj_cmp : ClassFile.Cond → Int32 → Int32 → Bool
  | .eq, x, y => decide (x = y)
  | .ne, x, y => decide (x ≠ y)
  | .lt, x, y => decide (x < y)
  | .ge, x, y => decide (y ≤ x)
  | .gt, x, y => decide (y < x)
  | .le, x, y => decide (x ≤ y)
def xj_sA (i : Instr) (nx : Nat) (ls : List (Nat × Value)) (st : List Value) (w : xj_W) : Option xj_F :=
  match xj_const i with
  | some v => some (nx, ls, v :: st, w)
  | none => none
def xj_sB (i : Instr) (nx : Nat) (ls : List (Nat × Value)) (st : List Value) (w : xj_W) : Option xj_F :=
  match xj_load i with
  | some (b, k) => match ls.lookup k with
    | some v => if xj_sort b v = true then some (nx, ls, v :: st, w) else none
    | none => none
  | none => none
def xj_sC (i : Instr) (nx : Nat) (ls : List (Nat × Value)) (st : List Value) (w : xj_W) : Option xj_F :=
  match xj_store i, st with
  | some (b, k), v :: r => if xj_sort b v = true then some (nx, xj_st1 ls k v, r, w) else none
  | _, _ => none
def xj_sD (i : Instr) (nx : Nat) (ls : List (Nat × Value)) (st : List Value) (w : xj_W) : Option xj_F :=
  match i with
  | .iinc k z => match ls.lookup k with
    | some (.int x) => some (nx, xj_st1 ls k (.int (x + Int32.ofInt z)), st, w)
    | _ => none
  | _ => none
def xj_sE (i : Instr) (nx : Nat) (ls : List (Nat × Value)) (st : List Value) (w : xj_W) : Option xj_F :=
  match st with
  | .int y :: .int x :: r => match xj_op2 i x y with
    | some v => some (nx, ls, .int v :: r, w)
    | none => none
  | _ => none
def xj_sF (i : Instr) (nx : Nat) (ls : List (Nat × Value)) (st : List Value) (w : xj_W) : Option xj_F :=
  match xj_stk i st with
  | some st' => some (nx, ls, st', w)
  | none => none
def xj_sG (i : Instr) (nx pc : Nat) (ls : List (Nat × Value)) (st : List Value) (w : xj_W) : Option xj_F :=
  match i with
  | .goto _ => some (nx, ls, st, w)
  | .ifCond c _ => match st with
    | .int x :: r => some (if xj_cmp c x 0 = true then nx else pc + 3, ls, r, w)
    | _ => none
  | .if_icmp c _ => match st with
    | .int y :: .int x :: r => some (if xj_cmp c x y = true then nx else pc + 3, ls, r, w)
    | _ => none
  | _ => none
/-- where a jump by off lands -/
def xj_to (pc : Nat) (off : Int) : Option Nat := if 0 ≤ (pc : Int) + off then some ((pc : Int) + off).toNat else none
def xj_sH (i : Instr) (pc : Nat) (ls : List (Nat × Value)) (st : List Value) (w : xj_W) : Option xj_F :=
  match i, st with
  | .tableswitch dflt lo hi offs, .int x :: r =>
    if x.toInt < lo ∨ hi < x.toInt then (xj_to pc dflt).map fun t => (t, ls, r, w)
    else match offs[(x.toInt - lo).toNat]? with
      | some off => (xj_to pc off).map fun t => (t, ls, r, w)
      | none => none
  | .lookupswitch dflt ps, .int x :: r =>
    if (ps.toList.zip (ps.toList.drop 1)).all (fun (a, next) => a.1 < next.1) = true then (xj_to pc (Op.lookupswitch.offset ps.toList dflt x.toInt)).map fun t => (t, ls, r, w) else none
  | _, _ => none
def xj_sI (i : Instr) (nx : Nat) (ls : List (Nat × Value)) (st : List Value) (w : xj_W) : Option xj_F :=
  match i, st with
  | .i2l, .int x :: r => some (nx, ls, .long x.toInt64 :: r, w)
  | .lcmp, .long y :: .long x :: r => some (nx, ls, .int (lg_cmp x y) :: r, w)
  | .laload, .int j :: .ref c :: r => match w.1[c]? with
    | some (.inl (.long, n)) => if j < 0 ∨ n ≤ j.toNatClampNeg then none else some (nx, ls, .long (w.2.2 c j.toNatClampNeg) :: r, w)
    | _ => none
  | .lastore, .long x :: .int j :: .ref c :: r => match w.1[c]? with
    | some (.inl (.long, n)) => if j < 0 ∨ n ≤ j.toNatClampNeg then none else some (nx, ls, r, (w.1, w.2.1, xj_setL w.2.2 c j.toNatClampNeg x))
    | _ => none
  | _, _ => none
def xj_sJ (X : xj_T) (m : Nat) (i : Instr) (nx : Nat) (ls : List (Nat × Value)) (st : List Value) (w : xj_W) : Option xj_F :=
  match i, st with
  | .getfield ix, .ref c :: r => match xj_fl X m ix, w.1[c]? with
    | some (ci, k, _), some (.inr (cj, fs)) => if cj = ci then match fs[k]? with
        | some (.int _) => some (nx, ls, .int (w.2.1 c k) :: r, w)
        | some (.ref a) => some (nx, ls, .ref a :: r, w)
        | _ => none
      else none
    | _, _ => none
  | .putfield ix, .int x :: .ref c :: r => match xj_fl X m ix, w.1[c]? with
    | some (ci, k, so), some (.inr (cj, fs)) => if cj = ci then match fs[k]? with
        | some (.int _) => if so = 0 ∨ (so = 1 ∧ (x = 0 ∨ x = 1)) then some (nx, ls, r, (w.1, xj_set w.2.1 c k x, w.2.2)) else none
        | _ => none
      else none
    | _, _ => none
  | .putfield ix, .ref a :: .ref c :: r => match xj_fl X m ix, w.1[c]? with
    | some (ci, k, so), some (.inr (cj, fs)) => if cj = ci then match fs[k]? with
        | some .null => if so = 2 then some (nx, ls, r, (w.1.set c (.inr (cj, fs.set k (.ref a))), w.2.1, w.2.2)) else none
        | _ => none
      else none
    | _, _ => none
  | .getstatic ix, r => match xj_gs X m ix with
    | some a => some (nx, ls, .ref a :: r, w)
    | none => none
  | _, _ => none
def xj_sL (X : xj_T) (i : Instr) (nx : Nat) (ls : List (Nat × Value)) (st : List Value) (w : xj_W) : Option xj_F :=
  match i, st with
  | .iaload, .int j :: .ref c :: r => match w.1[c]? with
    | some (.inl (.int, n)) => if j < 0 ∨ n ≤ j.toNatClampNeg then none else some (nx, ls, .int (w.2.1 c j.toNatClampNeg) :: r, w)
    | some _ => none
    | none => match xj_gv X c with
      | some (n, f) => if j < 0 ∨ n ≤ j.toNatClampNeg then none else some (nx, ls, .int (f j.toNatClampNeg) :: r, w)
      | none => none
  | .baload, .int j :: .ref c :: r => match w.1[c]? with
    | some (.inl (.boolean, n)) => if j < 0 ∨ n ≤ j.toNatClampNeg then none else some (nx, ls, .int (w.2.1 c j.toNatClampNeg) :: r, w)
    | _ => none
  | .iastore, .int x :: .int j :: .ref c :: r => match w.1[c]? with
    | some (.inl (.int, n)) => if j < 0 ∨ n ≤ j.toNatClampNeg then none else some (nx, ls, r, (w.1, xj_set w.2.1 c j.toNatClampNeg x, w.2.2))
    | _ => none
  | .bastore, .int x :: .int j :: .ref c :: r => match w.1[c]? with
    | some (.inl (.boolean, n)) => if j < 0 ∨ n ≤ j.toNatClampNeg then none else some (nx, ls, r, (w.1, xj_set w.2.1 c j.toNatClampNeg (x &&& 1), w.2.2))
    | _ => none
  | .arraylength, .ref c :: r => match w.1[c]? with
    | some (.inl (.int, n)) => some (nx, ls, .int (Int32.ofNat n) :: r, w)
    | some _ => none
    | none => match xj_gv X c with
      | some (n, _) => some (nx, ls, .int (Int32.ofNat n) :: r, w)
      | none => none
  | _, _ => none
/-- Object.<init> (kind 9), System.arraycopy of ints (kind 8) -/
def xj_sM (X : xj_T) (m : Nat) (i : Instr) (nx : Nat) (ls : List (Nat × Value)) (st : List Value) (w : xj_W) : Option xj_F :=
  match i, st with
  | .invokespecial ix, .ref _ :: r => match xj_ml X m ix with
    | some (9, _, _) => if (r.map fun v => v.category).sum ≤ 8 then some (nx, ls, r, w) else none
    | _ => none
  | .invokestatic ix, .int n :: .int dp :: .ref b :: .int sp :: .ref a :: r => match xj_ml X m ix, w.1[a]?, w.1[b]? with
    | some (8, _, _), some (.inl (.int, na)), some (.inl (.int, nb)) =>
      if sp < 0 ∨ dp < 0 ∨ n < 0 ∨ na < sp.toNatClampNeg + n.toNatClampNeg ∨ nb < dp.toNatClampNeg + n.toNatClampNeg ∨ 8 < (r.map fun v => v.category).sum then none
      else some (nx, ls, r, (w.1, xj_setA w.2.1 b (va_cpy (w.2.1 a) (w.2.1 b) sp.toNatClampNeg dp.toNatClampNeg n.toNatClampNeg), w.2.2))
    | _, _, _ => none
  | _, _ => none
def xj_or (a b : Option xj_F) : Option xj_F := match a with
  | some r => some r
  | none => b
def xj_step (X : xj_T) (m : Nat) (i : Instr) (nx pc : Nat) (ls : List (Nat × Value)) (st : List Value) (w : xj_W) : Option xj_F :=
  xj_or (xj_sA i nx ls st w) (xj_or (xj_sB i nx ls st w) (xj_or (xj_sC i nx ls st w) (xj_or (xj_sD i nx ls st w) (xj_or (xj_sE i nx ls st w) (xj_or (xj_sF i nx ls st w) (xj_or (xj_sG i nx pc ls st w)
    (xj_or (xj_sJ X m i nx ls st w) (xj_or (xj_sL X i nx ls st w) (xj_or (xj_sH i pc ls st w) (xj_or (xj_sI i nx ls st w) (xj_sM X m i nx ls st w)))))))))))
/-- the end of a call -/
def xj_end (X : xj_T) (m : Nat) (i : Instr) (st : List Value) (w : xj_W) : Option xj_R :=
  match i, st with
  | .return_, [] => match (xj_mt X m).2 with
    | none => some (.inl none, w, 0, 0)
    | some _ => none
  | .ireturn, [.int v] => match (xj_mt X m).2 with
    | some .int => some (.inl (some (.int v)), w, 0, 0)
    | some .boolean => if v = 0 ∨ v = 1 then some (.inl (some (.int v)), w, 0, 0) else none
    | _ => none
  | _, _ => none
/-- references that may be carried on while cells are made: below n, or given arrays -/
def xj_ok (n : Nat) : Value → Bool
  | .ref a => decide (a < n) || (decide (1000 ≤ a) && decide (a < 2000))
  | _ => true
def xj_one (av : List Value) : Bool := av.all fun v => v.category == 1
def xj_safe (n : Nat) (ls : List (Nat × Value)) (st : List Value) : Bool := ls.all (fun q => xj_ok n q.2) && st.all (xj_ok n)
/-- a call: kind (0 static, 1 on a receiver of the callee's class, 2 a constructor), callee, arguments, what is left on the stack -/
def xj_inv (X : xj_T) (m : Nat) (i : Instr) (st : List Value) (w : xj_W) : Option (Nat × Nat × List Value × List Value) :=
  match i with
  | .invokestatic ix => match xj_ml X m ix with
    | some (0, y, k) => if k ≤ st.length ∧ ((st.drop k).map fun v => v.category).sum ≤ 8 then some (0, y, (st.take k).reverse, st.drop k) else none
    | _ => none
  | .invokevirtual ix => match xj_ml X m ix with
    | some (1, y, k) => match st.drop k with
      | .ref c :: r => match w.1[c]? with
        | some (.inr (cj, _)) => if cj = (xj_mt X y).1 ∧ (r.map fun v => v.category).sum ≤ 8 then some (1, y, .ref c :: (st.take k).reverse, r) else none
        | _ => none
      | _ => none
    | _ => none
  | .invokespecial ix => match xj_ml X m ix with
    | some (2, y, k) => match st.drop k with
      | .ref c :: r => if (r.map fun v => v.category).sum ≤ 8 then some (2, y, .ref c :: (st.take k).reverse, r) else none
      | _ => none
    | _ => none
  | _ => none
/-- new cells: the type and the length, or the class and its fields -/
def xj_mk (X : xj_T) (m : Nat) (i : Instr) (st : List Value) : Option (xj_S × Nat × List Value) :=
  match i with
  | .new ix => match xj_nw X m ix with
    | some (ci, fs) => some (.inr (ci, fs), fs.length, st)
    | none => none
  | .newarray t => match st with
    | .int k :: r => if k < 0 ∨ 4096 < k.toNatClampNeg then none else match t with
      | .int => some (.inl (.int, k.toNatClampNeg), k.toNatClampNeg, r)
      | .boolean => some (.inl (.boolean, k.toNatClampNeg), k.toNatClampNeg, r)
      | .long => some (.inl (.long, k.toNatClampNeg), k.toNatClampNeg, r)
      | _ => none
    | _ => none
  | _ => none
def xj_add (c z : Nat) (r : Option xj_R) : Option xj_R := match r with
  | some (o, w, c1, z1) => some (o, w, c + c1, z + z1)
  | none => none
/-- no field leads out of the cells -/
def xj_wok (w : xj_W) : Bool := decide (w.1.length < 1000) && w.1.all fun sh => match sh with
  | .inr (_, fs) => fs.all (xj_ok w.1.length)
  | .inl _ => true
/-- one step of the machine, over what the rest does -/
def xj_lay (X : xj_T) (f : Nat → Nat → Nat → List (Nat × Value) → List Value → xj_W → Option xj_R) (d m pc : Nat) (ls : List (Nat × Value)) (st : List Value) (w : xj_W) : Option xj_R :=
  match xj_cd X m pc with
  | none => none
  | some (i, nx) =>
    match xj_step X m i nx pc ls st w with
    | some (pc', ls', st', w') => f d m pc' ls' st' w'
    | none =>
    match xj_inv X m i st w with
    | some (kd, y, av, rest) =>
      if d ≠ 0 ∧ xj_safe w.1.length ls rest = true ∧ xj_one av = true then
        match f (d - 1) y 0 (lv_args 0 av) [] w with
        | none => none
        | some (.inl v, w', c, z) => xj_add c z (f d m nx ls (v.toList ++ rest) w')
        | some (.inr q, w', c, z) => match xj_ca X m pc q with
          | some (some h) => if kd = 1 ∧ xj_wok w' = true then xj_add c z (f d m h ls [.ref 4096] w') else none
          | some none => if kd = 1 then some (.inr q, w', c, z) else none
          | none => none
      else none
    | none =>
    match xj_end X m i st w with
    | some r => some r
    | none =>
    match xj_th X m pc with
    | some q => if st.isEmpty = true then some (.inr q, w, 1, 6) else none
    | none =>
    match xj_mk X m i st with
    | some (sh, z, rest) =>
      if xj_safe w.1.length ls rest = true ∧ xj_wok w = true then
        xj_add 1 z (f d m nx ls (.ref w.1.length :: rest) (w.1 ++ [sh], xj_setA w.2.1 w.1.length (fun _ => 0), fun j => if j = w.1.length then (fun _ => 0) else w.2.2 j))
      else none
    | none => none
def xj_run (X : xj_T) : Nat → Nat → Nat → Nat → List (Nat × Value) → List Value → xj_W → Option xj_R
  | 0 => fun _ _ _ _ _ _ => none
  | n + 1 => xj_lay X (xj_run X n)
theorem xj_run_succ (X : xj_T) (n : Nat) : xj_run X (n + 1) = xj_lay X (xj_run X n) := rfl
theorem xj_add_some {c z : Nat} {r : Option xj_R} {q : xj_R} (h : xj_add c z r = some q) : ∃ o w c1 z1, r = some (o, w, c1, z1) ∧ q = (o, w, c + c1, z + z1) := by
  cases r with
  | none => simp [xj_add] at h
  | some p =>
    obtain ⟨o, w, c1, z1⟩ := p
    simp only [xj_add, Option.some.injEq] at h
    exact ⟨o, w, c1, z1, rfl, h.symm⟩
/-- more room changes no answer -/
theorem xj_mono (X : xj_T) : ∀ (n n' d d' m pc : Nat) (ls : List (Nat × Value)) (st : List Value) (w : xj_W) (r : xj_R), n ≤ n' → d ≤ d' → xj_run X n d m pc ls st w = some r → xj_run X n' d' m pc ls st w = some r := by
  intro n
  induction n with
  | zero => intro n' d d' m pc ls st w r _ _ h; simp [xj_run] at h
  | succ n ih =>
    intro n' d d' m pc ls st w r hn hd h
    cases n' with
    | zero => omega
    | succ n' =>
      have hn' : n ≤ n' := by omega
      rw [xj_run_succ] at h ⊢
      unfold xj_lay at h ⊢
      cases hcd : xj_cd X m pc with
      | none => simp [hcd] at h
      | some q =>
        obtain ⟨i, nx⟩ := q
        simp only [hcd] at h ⊢
        cases hs : xj_step X m i nx pc ls st w with
        | some f =>
          obtain ⟨pc', ls', st', w'⟩ := f
          simp only [hs] at h ⊢
          exact ih _ _ _ _ _ _ _ _ _ hn' hd h
        | none =>
          simp only [hs] at h ⊢
          cases hi : xj_inv X m i st w with
          | some f =>
            obtain ⟨kd, y, av, rest⟩ := f
            simp only [hi] at h ⊢
            by_cases hc : d ≠ 0 ∧ xj_safe w.1.length ls rest = true ∧ xj_one av = true
            · rw [if_pos hc] at h
              rw [if_pos ⟨by omega, hc.2⟩]
              cases hy : xj_run X n (d - 1) y 0 (lv_args 0 av) [] w with
              | none => simp [hy] at h
              | some f =>
                obtain ⟨o, w', c, z⟩ := f
                rw [ih _ _ _ _ _ _ _ _ _ hn' (by omega : d - 1 ≤ d' - 1) hy]
                simp only [hy] at h
                cases o with
                | inl v =>
                  simp only at h ⊢
                  obtain ⟨o, w1, c1, z1, h1, h2⟩ := xj_add_some h
                  rw [ih _ _ _ _ _ _ _ _ _ hn' hd h1, h2]
                  rfl
                | inr q =>
                  simp only at h ⊢
                  cases hca : xj_ca X m pc q with
                  | none => simp [hca] at h
                  | some hp0 =>
                   cases hp0 with
                   | none => simpa only [hca] using h
                   | some hp =>
                    simp only [hca] at h ⊢
                    split at h
                    · rename_i hwk
                      rw [if_pos hwk]
                      obtain ⟨o, w1, c1, z1, h1, h2⟩ := xj_add_some h
                      rw [ih _ _ _ _ _ _ _ _ _ hn' hd h1, h2]
                      rfl
                    · cases h
            · rw [if_neg hc] at h
              cases h
          | none =>
            simp only [hi] at h ⊢
            cases he : xj_end X m i st w with
            | some f => simpa only [he] using h
            | none =>
              simp only [he] at h ⊢
              cases ht : xj_th X m pc with
              | some q => simpa only [ht] using h
              | none =>
                simp only [ht] at h ⊢
                cases hk : xj_mk X m i st with
                | none => simp [hk] at h
                | some f =>
                  obtain ⟨sh, z, rest⟩ := f
                  simp only [hk] at h ⊢
                  by_cases hc : xj_safe w.1.length ls rest = true ∧ xj_wok w = true
                  · rw [if_pos hc] at h ⊢
                    obtain ⟨o, w1, c1, z1, h1, h2⟩ := xj_add_some h
                    rw [ih _ _ _ _ _ _ _ _ _ hn' hd h1, h2]
                    rfl
                  · rw [if_neg hc] at h
                    cases h
/-- from this frame our machine comes to an end with P -/
def xj_E (X : xj_T) (d m pc : Nat) (ls : List (Nat × Value)) (st : List Value) (w : xj_W) (P : (Option Value ⊕ Nat) → xj_W → Nat → Nat → Prop) : Prop :=
  ∃ (n : Nat) (o : Option Value ⊕ Nat) (w' : xj_W) (c z : Nat), xj_run X n d m pc ls st w = some (o, w', c, z) ∧ P o w' c z
theorem xj_E.mono {X : xj_T} {d m pc : Nat} {ls : List (Nat × Value)} {st : List Value} {w : xj_W} {P Q : (Option Value ⊕ Nat) → xj_W → Nat → Nat → Prop} (h : xj_E X d m pc ls st w P) (hPQ : ∀ o w c z, P o w c z → Q o w c z) : xj_E X d m pc ls st w Q := by
  obtain ⟨n, o, w', c, z, h1, h2⟩ := h
  exact ⟨n, o, w', c, z, h1, hPQ _ _ _ _ h2⟩
theorem xj_E.deep {X : xj_T} {d d' m pc : Nat} {ls : List (Nat × Value)} {st : List Value} {w : xj_W} {P : (Option Value ⊕ Nat) → xj_W → Nat → Nat → Prop} (h : xj_E X d m pc ls st w P) (hd : d ≤ d') : xj_E X d' m pc ls st w P := by
  obtain ⟨n, o, w', c, z, h1, h2⟩ := h
  exact ⟨n, o, w', c, z, xj_mono X _ _ _ _ _ _ _ _ _ _ (Nat.le_refl _) hd h1, h2⟩
/-- plain steps in a row -/
def xj_adv (X : xj_T) (m : Nat) : Nat → xj_F → Option xj_F
  | 0, f => some f
  | k + 1, (pc, ls, st, w) => match xj_cd X m pc with
    | none => none
    | some (i, nx) => match xj_step X m i nx pc ls st w with
      | some f => xj_adv X m k f
      | none => none
theorem xj_E.one {X : xj_T} {d m pc pc' nx : Nat} {ls ls' : List (Nat × Value)} {st st' : List Value} {w w' : xj_W} {P : (Option Value ⊕ Nat) → xj_W → Nat → Nat → Prop} {i : Instr} (hcd : xj_cd X m pc = some (i, nx)) (hs : xj_step X m i nx pc ls st w = some (pc', ls', st', w')) (h : xj_E X d m pc' ls' st' w' P) : xj_E X d m pc ls st w P := by
  obtain ⟨n, o, w1, c, z, h1, h2⟩ := h
  refine ⟨n + 1, o, w1, c, z, ?_, h2⟩
  rw [xj_run_succ]
  unfold xj_lay
  simp only [hcd, hs]
  exact h1
theorem xj_E.adv {X : xj_T} {d m : Nat} {P : (Option Value ⊕ Nat) → xj_W → Nat → Nat → Prop} : ∀ (k : Nat) {pc pc' : Nat} {ls ls' : List (Nat × Value)} {st st' : List Value} {w w' : xj_W}, xj_adv X m k (pc, ls, st, w) = some (pc', ls', st', w') → xj_E X d m pc' ls' st' w' P → xj_E X d m pc ls st w P := by
  intro k
  induction k with
  | zero =>
    intro pc pc' ls ls' st st' w w' h hE
    simp only [xj_adv, Option.some.injEq, Prod.mk.injEq] at h
    obtain ⟨rfl, rfl, rfl, rfl⟩ := h
    exact hE
  | succ k ih =>
    intro pc pc' ls ls' st st' w w' h hE
    simp only [xj_adv] at h
    cases hcd : xj_cd X m pc with
    | none => simp [hcd] at h
    | some q =>
      obtain ⟨i, nx⟩ := q
      simp only [hcd] at h
      cases hs : xj_step X m i nx pc ls st w with
      | none => simp [hs] at h
      | some f =>
        obtain ⟨pc1, ls1, st1, w1⟩ := f
        simp only [hs] at h
        exact xj_E.one hcd hs (ih h hE)
theorem xj_E.ite {X : xj_T} {d m a b : Nat} {ls : List (Nat × Value)} {st : List Value} {w : xj_W} {P : (Option Value ⊕ Nat) → xj_W → Nat → Nat → Prop} {c : Prop} [Decidable c] (ht : c → xj_E X d m a ls st w P) (hf : ¬ c → xj_E X d m b ls st w P) : xj_E X d m (if c then a else b) ls st w P := by
  by_cases h : c
  · rw [if_pos h]; exact ht h
  · rw [if_neg h]; exact hf h
theorem xj_E.ret {X : xj_T} {d m pc nx : Nat} {ls : List (Nat × Value)} {st : List Value} {w w' : xj_W} {P : (Option Value ⊕ Nat) → xj_W → Nat → Nat → Prop} {i : Instr} {o : Option Value ⊕ Nat} {c z : Nat} (hcd : xj_cd X m pc = some (i, nx)) (hs : xj_step X m i nx pc ls st w = none) (hi : xj_inv X m i st w = none) (he : xj_end X m i st w = some (o, w', c, z)) (h : P o w' c z) : xj_E X d m pc ls st w P := by
  refine ⟨1, o, w', c, z, ?_, h⟩
  rw [xj_run_succ]
  unfold xj_lay
  simp only [hcd, hs, hi, he]
theorem xj_E.thr {X : xj_T} {d m pc nx : Nat} {ls : List (Nat × Value)} {w : xj_W} {P : (Option Value ⊕ Nat) → xj_W → Nat → Nat → Prop} {i : Instr} {q : Nat} (hcd : xj_cd X m pc = some (i, nx)) (hs : xj_step X m i nx pc ls [] w = none) (hi : xj_inv X m i [] w = none) (he : xj_end X m i [] w = none) (ht : xj_th X m pc = some q) (h : P (.inr q) w 1 6) : xj_E X d m pc ls [] w P := by
  refine ⟨1, .inr q, w, 1, 6, ?_, h⟩
  rw [xj_run_succ]
  unfold xj_lay
  simp only [hcd, hs, hi, he, ht, List.isEmpty_nil, if_true]
theorem xj_E.call {X : xj_T} {d m pc nx kd y : Nat} {ls : List (Nat × Value)} {st av rest : List Value} {w : xj_W} {P : (Option Value ⊕ Nat) → xj_W → Nat → Nat → Prop} {i : Instr} (hcd : xj_cd X m pc = some (i, nx)) (hs : xj_step X m i nx pc ls st w = none) (hi : xj_inv X m i st w = some (kd, y, av, rest)) (hsf : xj_safe w.1.length ls rest = true) (hon : xj_one av = true)
    (h : xj_E X d y 0 (lv_args 0 av) [] w (fun o w' c z => match o with
      | .inl v => xj_E X (d + 1) m nx ls (v.toList ++ rest) w' (fun o2 w2 c2 z2 => P o2 w2 (c + c2) (z + z2))
      | .inr q => kd = 1 ∧ match xj_ca X m pc q with
        | some (some hp) => xj_wok w' = true ∧ xj_E X (d + 1) m hp ls [.ref 4096] w' (fun o2 w2 c2 z2 => P o2 w2 (c + c2) (z + z2))
        | some none => P (.inr q) w' c z
        | none => False)) : xj_E X (d + 1) m pc ls st w P := by
  obtain ⟨n, o, w1, c, z, h1, h2⟩ := h
  cases o with
  | inl v =>
    obtain ⟨n2, o2, w2, c2, z2, h3, h4⟩ := h2
    refine ⟨max n n2 + 1, o2, w2, c + c2, z + z2, ?_, h4⟩
    rw [xj_run_succ]
    unfold xj_lay
    simp only [hcd, hs, hi]
    rw [if_pos ⟨by omega, hsf, hon⟩]
    have e1 := xj_mono X _ (max n n2) _ (d + 1 - 1) _ _ _ _ _ _ (Nat.le_max_left _ _) (Nat.le_refl d) h1
    have e2 := xj_mono X _ (max n n2) _ (d + 1) _ _ _ _ _ _ (Nat.le_max_right _ _) (Nat.le_refl _) h3
    simp only [e1, e2, xj_add]
  | inr q =>
    obtain ⟨hkd, h2⟩ := h2
    cases hca : xj_ca X m pc q with
    | none => simp [hca] at h2
    | some hp0 =>
     cases hp0 with
     | none =>
      simp only [hca] at h2
      refine ⟨n + 1, .inr q, w1, c, z, ?_, h2⟩
      rw [xj_run_succ]
      unfold xj_lay
      simp only [hcd, hs, hi]
      rw [if_pos ⟨by omega, hsf, hon⟩]
      have e1 := xj_mono X _ n _ (d + 1 - 1) _ _ _ _ _ _ (Nat.le_refl _) (Nat.le_refl d) h1
      simp only [e1, hca, hkd, if_true]
     | some hp =>
      simp only [hca] at h2
      obtain ⟨hwk, n2, o2, w2, c2, z2, h3, h4⟩ := h2
      refine ⟨max n n2 + 1, o2, w2, c + c2, z + z2, ?_, h4⟩
      rw [xj_run_succ]
      unfold xj_lay
      simp only [hcd, hs, hi]
      rw [if_pos ⟨by omega, hsf, hon⟩]
      have e1 := xj_mono X _ (max n n2) _ (d + 1 - 1) _ _ _ _ _ _ (Nat.le_max_left _ _) (Nat.le_refl d) h1
      have e2 := xj_mono X _ (max n n2) _ (d + 1) _ _ _ _ _ _ (Nat.le_max_right _ _) (Nat.le_refl _) h3
      simp only [e1, hca, hkd, hwk, and_self, if_true, e2, xj_add]
end
section
/-! What our machine's frames stand for, and that its plain steps are the model's. -/
def xj_cv (ad : Nat → Nat) : Value → Value
  | .ref a => .ref (ad a)
  | v => v
theorem xj_cv_cat (ad : Nat → Nat) (v : Value) : (xj_cv ad v).category = v.category := by cases v <;> rfl
def xj_cl (ad : Nat → Nat) (ls : List (Nat × Value)) : List (Nat × Value) := ls.map fun q => (q.1, xj_cv ad q.2)
/-- a field's value -/
def xj_fv (ad : Nat → Nat) (σ : Nat → Int32) (k : Nat) : Value → Value
  | .int _ => .int (σ k)
  | v => xj_cv ad v
def xj_cell (ad : Nat → Nat) (cA : FieldType → ClassId) (σ : Nat → Int32) (τ : Nat → Int64) : xj_S → va_E
  | .inl (.long, n) => .inl (cA .long, n, .inr (.inl τ))
  | .inl (ty, n) => .inl (cA ty, n, .inl σ)
  | .inr (ci, fs) => .inr (ci, fs.mapIdx (xj_fv ad σ))
def xj_cw (ad : Nat → Nat) (cA : FieldType → ClassId) (w : xj_W) : va_W := w.1.mapIdx fun c sh => (ad c, xj_cell ad cA (w.2.1 c) (w.2.2 c) sh)
theorem xj_cw_at {ad : Nat → Nat} {cA : FieldType → ClassId} {w : xj_W} {c : Nat} {sh : xj_S} (h : w.1[c]? = some sh) : (xj_cw ad cA w)[c]? = some (ad c, xj_cell ad cA (w.2.1 c) (w.2.2 c) sh) := by
  simp [xj_cw, List.getElem?_mapIdx, h]
/-- one cell's numbers change -/
theorem xj_cw_set {ad : Nat → Nat} {cA : FieldType → ClassId} {S S' : List xj_S} {σ σ' : Nat → Nat → Int32} {τ τ' : Nat → Nat → Int64} {c : Nat} {sh : xj_S} (hS : S' = S.set c sh) (h1 : ∀ j, j ≠ c → σ' j = σ j) (h2 : ∀ j, j ≠ c → τ' j = τ j) {e : va_E} (he : xj_cell ad cA (σ' c) (τ' c) sh = e) :
    xj_cw ad cA (S', σ', τ') = (xj_cw ad cA (S, σ, τ)).set c (ad c, e) := by
  subst hS
  subst he
  apply List.ext_getElem?
  intro j
  simp only [xj_cw, List.getElem?_mapIdx, List.getElem?_set, List.length_mapIdx]
  by_cases hj : c = j
  · subst hj
    by_cases hl : c < S.length
    · simp [hl]
    · simp [hl]
  · simp only [if_neg hj]
    cases hs : S[j]? with
    | none => rfl
    | some q => simp [h1 j (fun q => hj q.symm), h2 j (fun q => hj q.symm)]
theorem xj_set_same (σ : Nat → Nat → Int32) (c k : Nat) (x : Int32) : xj_set σ c k x c = upd (σ c) k x := by simp [xj_set]
theorem xj_set_ne (σ : Nat → Nat → Int32) {c j : Nat} (k : Nat) (x : Int32) (h : j ≠ c) : xj_set σ c k x j = σ j := by simp [xj_set, h]
theorem xj_setL_same (σ : Nat → Nat → Int64) (c k : Nat) (x : Int64) : xj_setL σ c k x c = vp_updL (σ c) k x := by simp [xj_setL]
theorem xj_setL_ne (σ : Nat → Nat → Int64) {c j : Nat} (k : Nat) (x : Int64) (h : j ≠ c) : xj_setL σ c k x j = σ j := by simp [xj_setL, h]
theorem xj_setA_same (σ : Nat → Nat → Int32) (c : Nat) (f : Nat → Int32) : xj_setA σ c f c = f := by simp [xj_setA]
theorem xj_setA_ne (σ : Nat → Nat → Int32) {c j : Nat} (f : Nat → Int32) (h : j ≠ c) : xj_setA σ c f j = σ j := by simp [xj_setA, h]
theorem xj_self {S : List xj_S} {c : Nat} {sh : xj_S} (h : S[c]? = some sh) : S = S.set c sh := by
  apply List.ext_getElem?
  intro j
  rw [List.getElem?_set]
  by_cases hj : c = j
  · subst hj
    obtain ⟨hl, he⟩ := List.getElem?_eq_some_iff.mp h
    rw [if_pos rfl, if_pos hl, h]
  · rw [if_neg hj]
theorem xj_mem {k : Nat} {v : Value} : ∀ {ls : List (Nat × Value)}, ls.lookup k = some v → (k, v) ∈ ls
  | [], h => by simp at h
  | (a, b) :: r, h => by
    rw [List.lookup_cons] at h
    by_cases hk : (k == a) = true
    · simp only [hk] at h
      have e : k = a := by simpa using hk
      cases h
      subst e
      exact List.mem_cons_self
    · have e : (k == a) = false := by simpa using hk
      simp only [e] at h
      exact List.mem_cons_of_mem _ (xj_mem h)
theorem xj_lk {ad : Nat → Nat} {la : Array Slot} {nL k : Nat} {ls : List (Nat × Value)} {v : Value} (hl : lv_has la nL (xj_cl ad ls)) (h : ls.lookup k = some v) : la[k]? = some (.val (xj_cv ad v)) :=
  hl.2.2 (k, xj_cv ad v) (List.mem_map.mpr ⟨(k, v), xj_mem h, rfl⟩)
theorem xj_cl_st1 (ad : Nat → Nat) (ls : List (Nat × Value)) (i : Nat) (v : Value) : (i, xj_cv ad v) :: (xj_cl ad ls).filter (fun q => !(q.1 == i) && !(q.1 + 1 == i && q.2.category == 2)) = xj_cl ad (xj_st1 ls i v) := by
  simp only [xj_cl, xj_st1, List.map_cons, List.filter_map]
  congr 1
  congr 1
  apply List.filter_congr
  intro q _
  simp only [Function.comp, xj_cv_cat]
def xj_len : Instr → Nat
  | .iconst _ | .iload_n _ | .aload_n _ | .istore_n _ | .astore_n _ => 1
  | .bipush _ | .iload _ | .aload _ | .istore _ | .astore _ | .newarray _ | .ldc _ => 2
  | .sipush _ | .iinc _ _ | .getfield _ | .putfield _ | .getstatic _ | .invokestatic _ | .invokevirtual _ | .invokespecial _ | .new _ => 3
  | _ => 1
/-- length and next place of an instruction, and the local that it stores into -/
def xj_fit (nL : Nat) (i : Instr) (pc nx len : Nat) : Bool :=
  match i with
  | .ifCond _ off => decide ((pc : Int) + off = (nx : Int)) && decide (len = 3)
  | .if_icmp _ off => decide ((pc : Int) + off = (nx : Int)) && decide (len = 3)
  | .goto off => decide ((pc : Int) + off = (nx : Int)) && decide (len = 3)
  | .tableswitch _ _ _ _ => true
  | .lookupswitch _ _ => true
  | .istore k => decide (nx = pc + 2) && decide (len = 2) && decide (k < nL)
  | .istore_n k => decide (nx = pc + 1) && decide (len = 1) && decide (k.val < nL)
  | .astore k => decide (nx = pc + 2) && decide (len = 2) && decide (k < nL)
  | .astore_n k => decide (nx = pc + 1) && decide (len = 1) && decide (k.val < nL)
  | .iinc k _ => decide (nx = pc + 3) && decide (len = 3) && decide (k < nL)
  | i => decide (nx = pc + xj_len i) && decide (len = xj_len i)
def xj_dec (cc : ByteArray) (nL pc : Nat) (i : Instr) (nx : Nat) : Prop := ∃ len, decode cc pc = .ok (i, len) ∧ xj_fit nL i pc nx len = true
section XJ1
variable {p : Program} {l : Launch} {e : Env} {R : Room} {s : State} {m : MethodId} {args : Array Value} {below : List Frame} {meth : Method} {c : Code} {cells slots : Nat} {Q : State → Prop}
variable {D : va_G} {cl : List vw_C} {cA : FieldType → ClassId} {A : Nat → Prop} {nL : Nat} {ad : Nat → Nat} {cc : ByteArray}
variable {i : Instr} {nx pc pc' : Nat} {ls ls' : List (Nat × Value)} {st st' : List Value} {w w' : xj_W}
/-- from this frame of ours, wherever its cells lie, the model comes to Q -/
def xj_Go (p : Program) (l : Launch) (e : Env) (R : Room) (s : State) (m : MethodId) (args : Array Value) (below : List Frame) (meth : Method) (c : Code) (cells slots : Nat) (Q : State → Prop) (D : va_G) (cl : List vw_C) (cA : FieldType → ClassId) (A : Nat → Prop) (nL : Nat) (ad : Nat → Nat) (pc : Nat) (ls : List (Nat × Value)) (st : List Value) (w : xj_W) : Prop :=
  ∀ (H : Heap) (locs : List Loc) (la : Array Slot), lv_has la nL (xj_cl ad ls) → va_P D cl (xj_cw ad cA w) H → va_D A (xj_cw ad cA w) → va_S A s.heap H locs → W p l e R s m args below meth c H locs cells slots Q (F0 m pc la (st.map (xj_cv ad)))
theorem xj_snA (hx : p.tables.exec = Jvm.exec) (hb : c.code = cc) (h : xj_sA i nx ls st w = some (pc', ls', st', w')) (hd : xj_dec cc nL pc i nx) (k : xj_Go p l e R s m args below meth c cells slots Q D cl cA A nL ad pc' ls' st' w') : xj_Go p l e R s m args below meth c cells slots Q D cl cA A nL ad pc ls st w := by
  unfold xj_sA at h
  split at h
  · rename_i v hv
    simp only [Option.some.injEq, Prod.mk.injEq] at h
    obtain ⟨rfl, rfl, rfl, rfl⟩ := h
    obtain ⟨len, hdec, hfit⟩ := hd
    intro H locs la hl hP hD hS
    have kk := k H locs la hl hP hD hS
    unfold xj_const at hv
    split at hv
    · cases hv
      simp only [xj_fit, Bool.and_eq_true, decide_eq_true_eq] at hfit
      obtain ⟨rfl, rfl⟩ := hfit
      exact lv_iconst hx hb hdec rfl kk
    · cases hv
      simp only [xj_fit, Bool.and_eq_true, decide_eq_true_eq] at hfit
      obtain ⟨rfl, rfl⟩ := hfit
      exact lv_bipush hx hb hdec rfl kk
    · cases hv
      simp only [xj_fit, Bool.and_eq_true, decide_eq_true_eq] at hfit
      obtain ⟨rfl, rfl⟩ := hfit
      exact lv_sipush hx hb hdec rfl kk
    · cases hv
  · cases h
theorem xj_snB (hx : p.tables.exec = Jvm.exec) (hb : c.code = cc) (h : xj_sB i nx ls st w = some (pc', ls', st', w')) (hd : xj_dec cc nL pc i nx) (k : xj_Go p l e R s m args below meth c cells slots Q D cl cA A nL ad pc' ls' st' w') : xj_Go p l e R s m args below meth c cells slots Q D cl cA A nL ad pc ls st w := by
  unfold xj_sB at h
  split at h
  · rename_i b j hv
    split at h
    · rename_i v hlk
      split at h
      · rename_i hso
        simp only [Option.some.injEq, Prod.mk.injEq] at h
        obtain ⟨rfl, rfl, rfl, rfl⟩ := h
        obtain ⟨len, hdec, hfit⟩ := hd
        intro H locs la hl hP hD hS
        have kk := k H locs la hl hP hD hS
        have hla := xj_lk hl hlk
        unfold xj_load at hv
        split at hv <;> cases hv
        · cases v <;> simp only [xj_sort, Bool.false_eq_true] at hso
          simp only [xj_fit, Bool.and_eq_true, decide_eq_true_eq] at hfit
          obtain ⟨rfl, rfl⟩ := hfit
          exact lv_iload hx hb hdec hla kk
        · cases v <;> simp only [xj_sort, Bool.false_eq_true] at hso
          simp only [xj_fit, Bool.and_eq_true, decide_eq_true_eq] at hfit
          obtain ⟨rfl, rfl⟩ := hfit
          exact lv_iload_n hx hb hdec rfl hla kk
        · cases v <;> simp only [xj_sort, Bool.false_eq_true] at hso
          simp only [xj_fit, Bool.and_eq_true, decide_eq_true_eq] at hfit
          obtain ⟨rfl, rfl⟩ := hfit
          exact lv_aload hx hb hdec hla kk
        · cases v <;> simp only [xj_sort, Bool.false_eq_true] at hso
          simp only [xj_fit, Bool.and_eq_true, decide_eq_true_eq] at hfit
          obtain ⟨rfl, rfl⟩ := hfit
          exact lv_aload_n hx hb hdec rfl hla kk
      · cases h
    · cases h
  · cases h
theorem xj_snC (hx : p.tables.exec = Jvm.exec) (hb : c.code = cc) (h : xj_sC i nx ls st w = some (pc', ls', st', w')) (hd : xj_dec cc nL pc i nx) (k : xj_Go p l e R s m args below meth c cells slots Q D cl cA A nL ad pc' ls' st' w') : xj_Go p l e R s m args below meth c cells slots Q D cl cA A nL ad pc ls st w := by
  unfold xj_sC at h
  split at h
  · rename_i b j v r hv
    split at h
    · rename_i hso
      simp only [Option.some.injEq, Prod.mk.injEq] at h
      obtain ⟨rfl, rfl, rfl, rfl⟩ := h
      obtain ⟨len, hdec, hfit⟩ := hd
      intro H locs la hl hP hD hS
      unfold xj_store at hv
      split at hv <;> cases hv
      · cases v <;> simp only [xj_sort, Bool.false_eq_true] at hso
        simp only [xj_fit, Bool.and_eq_true, decide_eq_true_eq] at hfit
        obtain ⟨⟨rfl, rfl⟩, hn⟩ := hfit
        exact lv_istore hx hb hdec hl hn rfl (fun la' hl' => k H locs la' (by rw [← xj_cl_st1]; exact hl') hP hD hS)
      · cases v <;> simp only [xj_sort, Bool.false_eq_true] at hso
        simp only [xj_fit, Bool.and_eq_true, decide_eq_true_eq] at hfit
        obtain ⟨⟨rfl, rfl⟩, hn⟩ := hfit
        exact lv_istore_n hx hb hdec rfl hl hn rfl (fun la' hl' => k H locs la' (by rw [← xj_cl_st1]; exact hl') hP hD hS)
      · cases v <;> simp only [xj_sort, Bool.false_eq_true] at hso
        simp only [xj_fit, Bool.and_eq_true, decide_eq_true_eq] at hfit
        obtain ⟨⟨rfl, rfl⟩, hn⟩ := hfit
        exact lv_astore hx hb hdec hl hn rfl (fun la' hl' => k H locs la' (by rw [← xj_cl_st1]; exact hl') hP hD hS)
      · cases v <;> simp only [xj_sort, Bool.false_eq_true] at hso
        simp only [xj_fit, Bool.and_eq_true, decide_eq_true_eq] at hfit
        obtain ⟨⟨rfl, rfl⟩, hn⟩ := hfit
        exact lv_astore_n hx hb hdec rfl hl hn rfl (fun la' hl' => k H locs la' (by rw [← xj_cl_st1]; exact hl') hP hD hS)
    · cases h
  · cases h
theorem xj_snD (hx : p.tables.exec = Jvm.exec) (hb : c.code = cc) (h : xj_sD i nx ls st w = some (pc', ls', st', w')) (hd : xj_dec cc nL pc i nx) (k : xj_Go p l e R s m args below meth c cells slots Q D cl cA A nL ad pc' ls' st' w') : xj_Go p l e R s m args below meth c cells slots Q D cl cA A nL ad pc ls st w := by
  unfold xj_sD at h
  split at h
  · rename_i j z
    split at h
    · rename_i x hlk
      simp only [Option.some.injEq, Prod.mk.injEq] at h
      obtain ⟨rfl, rfl, rfl, rfl⟩ := h
      obtain ⟨len, hdec, hfit⟩ := hd
      intro H locs la hl hP hD hS
      simp only [xj_fit, Bool.and_eq_true, decide_eq_true_eq] at hfit
      obtain ⟨⟨rfl, rfl⟩, hn⟩ := hfit
      have hm : (j, Value.int x) ∈ xj_cl ad ls := List.mem_map.mpr ⟨(j, .int x), xj_mem hlk, rfl⟩
      obtain ⟨q, hq⟩ := List.mem_iff_getElem?.mp hm
      exact lv_iinc hx hb hdec hl hq rfl hn rfl (fun la' hl' => k H locs la' (by rw [← xj_cl_st1]; exact hl') hP hD hS)
    · cases h
  · cases h
theorem xj_snE (hx : p.tables.exec = Jvm.exec) (hb : c.code = cc) (h : xj_sE i nx ls st w = some (pc', ls', st', w')) (hd : xj_dec cc nL pc i nx) (k : xj_Go p l e R s m args below meth c cells slots Q D cl cA A nL ad pc' ls' st' w') : xj_Go p l e R s m args below meth c cells slots Q D cl cA A nL ad pc ls st w := by
  unfold xj_sE at h
  split at h
  · rename_i y x r
    split at h
    · rename_i v hv
      simp only [Option.some.injEq, Prod.mk.injEq] at h
      obtain ⟨rfl, rfl, rfl, rfl⟩ := h
      obtain ⟨len, hdec, hfit⟩ := hd
      intro H locs la hl hP hD hS
      have kk := k H locs la hl hP hD hS
      unfold xj_op2 at hv
      split at hv
      case h_9 =>
        split at hv
        · cases hv
        · rename_i hne
          cases hv
          simp only [xj_fit, Bool.and_eq_true, decide_eq_true_eq] at hfit
          obtain ⟨rfl, rfl⟩ := hfit
          exact lv_irem hx hb hdec hne kk
      case h_10 =>
        split at hv
        · cases hv
        · rename_i hne
          cases hv
          simp only [xj_fit, Bool.and_eq_true, decide_eq_true_eq] at hfit
          obtain ⟨rfl, rfl⟩ := hfit
          exact lv_idiv hx hb hdec hne kk
      all_goals cases hv
      all_goals
        simp only [xj_fit, Bool.and_eq_true, decide_eq_true_eq] at hfit
        obtain ⟨rfl, rfl⟩ := hfit
        first
          | exact lv_iadd hx hb hdec kk
          | exact lv_isub hx hb hdec kk
          | exact lv_imul hx hb hdec kk
          | exact lv_iand hx hb hdec kk
          | exact lv_ior hx hb hdec kk
          | exact lv_ixor hx hb hdec kk
          | exact lv_ishl hx hb hdec kk
          | exact lv_ishr hx hb hdec kk
    · cases h
  · cases h
theorem xj_snF (hx : p.tables.exec = Jvm.exec) (hb : c.code = cc) (h : xj_sF i nx ls st w = some (pc', ls', st', w')) (hd : xj_dec cc nL pc i nx) (k : xj_Go p l e R s m args below meth c cells slots Q D cl cA A nL ad pc' ls' st' w') : xj_Go p l e R s m args below meth c cells slots Q D cl cA A nL ad pc ls st w := by
  unfold xj_sF at h
  split at h
  · rename_i st1 hv
    simp only [Option.some.injEq, Prod.mk.injEq] at h
    obtain ⟨rfl, rfl, rfl, rfl⟩ := h
    obtain ⟨len, hdec, hfit⟩ := hd
    intro H locs la hl hP hD hS
    have kk := k H locs la hl hP hD hS
    unfold xj_stk at hv
    split at hv <;> first | cases hv | (split at hv <;> cases hv)
    all_goals
      rename_i hc
      simp only [xj_fit, Bool.and_eq_true, decide_eq_true_eq] at hfit
      obtain ⟨rfl, rfl⟩ := hfit
      first
        | exact lv_dup hx hb hdec (by rw [xj_cv_cat]; exact hc) kk
        | exact lv_pop hx hb hdec (by rw [xj_cv_cat]; exact hc) kk
        | exact lv_dup_x1 hx hb hdec (by rw [xj_cv_cat]; exact hc.1) (by rw [xj_cv_cat]; exact hc.2) kk
        | exact lv_dup_x2 hx hb hdec (by rw [xj_cv_cat]; exact hc.1) (by rw [xj_cv_cat]; exact hc.2.1) (by rw [xj_cv_cat]; exact hc.2.2) kk
        | exact lv_dup2_11 hx hb hdec (by rw [xj_cv_cat]; exact hc.1) (by rw [xj_cv_cat]; exact hc.2) kk
  · cases h
theorem xj_snG (hx : p.tables.exec = Jvm.exec) (hb : c.code = cc) (h : xj_sG i nx pc ls st w = some (pc', ls', st', w')) (hd : xj_dec cc nL pc i nx) (k : xj_Go p l e R s m args below meth c cells slots Q D cl cA A nL ad pc' ls' st' w') : xj_Go p l e R s m args below meth c cells slots Q D cl cA A nL ad pc ls st w := by
  unfold xj_sG at h
  split at h
  · simp only [Option.some.injEq, Prod.mk.injEq] at h
    obtain ⟨rfl, rfl, rfl, rfl⟩ := h
    obtain ⟨len, hdec, hfit⟩ := hd
    intro H locs la hl hP hD hS
    have kk := k H locs la hl hP hD hS
    simp only [xj_fit, Bool.and_eq_true, decide_eq_true_eq] at hfit
    obtain ⟨ht, rfl⟩ := hfit
    exact lv_goto hx hb hdec ht kk
  · rename_i co off
    split at h
    · rename_i x r
      simp only [Option.some.injEq, Prod.mk.injEq] at h
      obtain ⟨rfl, rfl, rfl, rfl⟩ := h
      obtain ⟨len, hdec, hfit⟩ := hd
      intro H locs la hl hP hD hS
      have kk := k H locs la hl hP hD hS
      simp only [xj_fit, Bool.and_eq_true, decide_eq_true_eq] at hfit
      obtain ⟨ht, rfl⟩ := hfit
      cases co
      · exact lv_if_eq hx hb hdec ht (fun q => by rw [if_pos (by simpa [xj_cmp] using q)] at kk; exact kk) (fun q => by rw [if_neg (by simpa [xj_cmp] using q)] at kk; exact kk)
      · exact lv_if_ne hx hb hdec ht (fun q => by rw [if_pos (by simpa [xj_cmp] using q)] at kk; exact kk) (fun q => by rw [if_neg (by simpa [xj_cmp] using q)] at kk; exact kk)
      · exact lv_if_lt hx hb hdec ht (fun q => by rw [if_pos (by simpa only [xj_cmp, decide_eq_true_eq] using q)] at kk; exact kk) (fun q => by rw [if_neg (by simpa only [xj_cmp, decide_eq_true_eq] using q)] at kk; exact kk)
      · exact lv_if_ge hx hb hdec ht (fun q => by rw [if_pos (by simpa only [xj_cmp, decide_eq_true_eq] using q)] at kk; exact kk) (fun q => by rw [if_neg (by simpa only [xj_cmp, decide_eq_true_eq] using q)] at kk; exact kk)
      · exact lv_if_gt hx hb hdec ht (fun q => by rw [if_pos (by simpa only [xj_cmp, decide_eq_true_eq] using q)] at kk; exact kk) (fun q => by rw [if_neg (by simpa only [xj_cmp, decide_eq_true_eq] using q)] at kk; exact kk)
      · exact lv_if_le hx hb hdec ht (fun q => by rw [if_pos (by simpa only [xj_cmp, decide_eq_true_eq] using q)] at kk; exact kk) (fun q => by rw [if_neg (by simpa only [xj_cmp, decide_eq_true_eq] using q)] at kk; exact kk)
    · cases h
  · rename_i co off
    split at h
    · rename_i y x r
      simp only [Option.some.injEq, Prod.mk.injEq] at h
      obtain ⟨rfl, rfl, rfl, rfl⟩ := h
      obtain ⟨len, hdec, hfit⟩ := hd
      intro H locs la hl hP hD hS
      have kk := k H locs la hl hP hD hS
      simp only [xj_fit, Bool.and_eq_true, decide_eq_true_eq] at hfit
      obtain ⟨ht, rfl⟩ := hfit
      cases co
      · exact lv_icmp_eq hx hb hdec ht (fun q => by rw [if_pos (by simpa [xj_cmp] using q)] at kk; exact kk) (fun q => by rw [if_neg (by simpa [xj_cmp] using q)] at kk; exact kk)
      · exact lv_icmp_ne hx hb hdec ht (fun q => by rw [if_pos (by simpa [xj_cmp] using q)] at kk; exact kk) (fun q => by rw [if_neg (by simpa [xj_cmp] using q)] at kk; exact kk)
      · exact lv_icmp_lt hx hb hdec ht (fun q => by rw [if_pos (by simpa only [xj_cmp, decide_eq_true_eq] using q)] at kk; exact kk) (fun q => by rw [if_neg (by simpa only [xj_cmp, decide_eq_true_eq] using q)] at kk; exact kk)
      · exact lv_icmp_ge hx hb hdec ht (fun q => by rw [if_pos (by simpa only [xj_cmp, decide_eq_true_eq] using q)] at kk; exact kk) (fun q => by rw [if_neg (by simpa only [xj_cmp, decide_eq_true_eq] using q)] at kk; exact kk)
      · exact lv_icmp_gt hx hb hdec ht (fun q => by rw [if_pos (by simpa only [xj_cmp, decide_eq_true_eq] using q)] at kk; exact kk) (fun q => by rw [if_neg (by simpa only [xj_cmp, decide_eq_true_eq] using q)] at kk; exact kk)
      · exact lv_icmp_le hx hb hdec ht (fun q => by rw [if_pos (by simpa only [xj_cmp, decide_eq_true_eq] using q)] at kk; exact kk) (fun q => by rw [if_neg (by simpa only [xj_cmp, decide_eq_true_eq] using q)] at kk; exact kk)
    · cases h
  · cases h
end XJ1
end
section
/-! plain steps that read or write cells -/
theorem xj_fv_set {ad : Nat → Nat} {σ : Nat → Int32} {fs : List Value} {k : Nat} {y x : Int32} (h : fs[k]? = some (.int y)) : fs.mapIdx (xj_fv ad (upd σ k x)) = (fs.mapIdx (xj_fv ad σ)).set k (.int x) := by
  apply List.ext_getElem?
  intro j
  simp only [List.getElem?_mapIdx, List.getElem?_set, List.length_mapIdx]
  by_cases hj : k = j
  · subst hj
    have hl := (List.getElem?_eq_some_iff.mp h).1
    rw [if_pos rfl, if_pos hl, h]
    simp [xj_fv, upd]
  · simp only [if_neg hj]
    cases hs : fs[j]? with
    | none => rfl
    | some q =>
      have hj' : j ≠ k := fun e => hj e.symm
      cases q <;> simp [xj_fv, upd, hj']
theorem xj_fv_ref {ad : Nat → Nat} {σ : Nat → Int32} {fs : List Value} {k a : Nat} : (fs.set k (.ref a)).mapIdx (xj_fv ad σ) = (fs.mapIdx (xj_fv ad σ)).set k (.ref (ad a)) := by
  apply List.ext_getElem?
  intro j
  simp only [List.getElem?_mapIdx, List.getElem?_set, List.length_mapIdx]
  by_cases hj : k = j
  · subst hj
    by_cases hl : k < fs.length
    · simp [hl, xj_fv, xj_cv]
    · simp [hl]
  · simp only [if_neg hj]
abbrev xj_ty (cA : FieldType → ClassId) : List (ClassId × FieldType) := [(cA .int, .int), (cA .boolean, .boolean), (cA .long, .long)]
/-- what the tables say of a field's place -/
def xj_Fl (X : xj_T) (mi : Nat) (own name : String) (s : State) (args : Array Value) (Ts : List Jvm.Cond) (cl : List vw_C) : Prop :=
  ∀ ix ci k so, xj_fl X mi ix = some (ci, k, so) → ∃ (C : String) (T : u_T) (N : Nat) (ty0 : Nat → FieldType), cl[ci]? = some (C, T, N) ∧ (∀ w ∈ u_ws C T N, w ∈ Ts) ∧ (∀ k, k < N → parseFieldDescriptor (T k).2.2.1 = some (ty0 k)) ∧ (∀ a, a < N → ∀ b, b < N → a ≠ b → (T a).2.1 ≠ (T b).2.1) ∧ k < N ∧
    (Jvm.Cond.fieldLink own ix (T k).1 (T k).2.1 (T k).2.2.1).before args s = true ∧
    (so = 0 → ty0 k = .int ∧ (T k).2.2.2 = false) ∧ (so = 1 → ty0 k = .boolean ∧ (T k).2.2.2 = false) ∧ (so = 2 → ((∃ t, ty0 k = .array t) ∨ ∃ n, ty0 k = .object n) ∧ (T k).2.2.2 = true ∧ (T k).1 = own ∧ name = "<init>")
section XJ2
variable {p : Program} {l : Launch} {e : Env} {R : Room} {s : State} {m : MethodId} {args : Array Value} {below : List Frame} {meth : Method} {c : Code} {cells slots : Nat} {Q : State → Prop}
variable {D : va_G} {cl : List vw_C} {cA : FieldType → ClassId} {A : Nat → Prop} {nL : Nat} {ad : Nat → Nat} {cc : ByteArray}
variable {X : xj_T} {mi : Nat} {own : String} {Ts : List Jvm.Cond}
variable {i : Instr} {nx pc pc' : Nat} {ls ls' : List (Nat × Value)} {st st' : List Value} {w w' : xj_W}
theorem xj_to_some {pc t : Nat} {off : Int} (h : xj_to pc off = some t) : (pc : Int) + off = (t : Int) := by
  unfold xj_to at h
  split at h
  · cases h
    rename_i hp
    exact (Int.toNat_of_nonneg hp).symm
  · cases h
theorem xj_snH (hx : p.tables.exec = Jvm.exec) (hb : c.code = cc) (h : xj_sH i pc ls st w = some (pc', ls', st', w')) (hd : xj_dec cc nL pc i nx) (k : xj_Go p l e R s m args below meth c cells slots Q D cl cA A nL ad pc' ls' st' w') : xj_Go p l e R s m args below meth c cells slots Q D cl cA A nL ad pc ls st w := by
  obtain ⟨len, hdec, -⟩ := hd
  intro H locs la hl hP hD hS
  unfold xj_sH at h
  split at h
  · rename_i dflt lo hi offs x r
    split at h
    · rename_i hout
      obtain ⟨t, ht, he⟩ := Option.map_eq_some_iff.mp h
      simp only [Prod.mk.injEq] at he
      obtain ⟨rfl, rfl, rfl, rfl⟩ := he
      exact lv_tableOut hx hb hdec hout (xj_to_some ht) (k H locs la hl hP hD hS)
    · rename_i hin
      split at h
      · rename_i off ho
        obtain ⟨t, ht, he⟩ := Option.map_eq_some_iff.mp h
        simp only [Prod.mk.injEq] at he
        obtain ⟨rfl, rfl, rfl, rfl⟩ := he
        exact lv_tableIn hx hb hdec (fun q => hin (Or.inl q)) (fun q => hin (Or.inr q)) ho (xj_to_some ht) (k H locs la hl hP hD hS)
      · cases h
  · rename_i dflt ps x r
    split at h
    · rename_i hsorted
      obtain ⟨t, ht, he⟩ := Option.map_eq_some_iff.mp h
      simp only [Prod.mk.injEq] at he
      obtain ⟨rfl, rfl, rfl, rfl⟩ := he
      exact lv_lookup hx hb hdec hsorted rfl (xj_to_some ht) (k H locs la hl hP hD hS)
    · cases h
  · cases h
theorem xj_snI (hx : p.tables.exec = Jvm.exec) (hb : c.code = cc) (hK : va_K D cl (xj_ty cA) s) (h : xj_sI i nx ls st w = some (pc', ls', st', w')) (hd : xj_dec cc nL pc i nx) (k : xj_Go p l e R s m args below meth c cells slots Q D cl cA A nL ad pc' ls' st' w') : xj_Go p l e R s m args below meth c cells slots Q D cl cA A nL ad pc ls st w := by
  obtain ⟨len, hdec, hfit⟩ := hd
  intro H locs la hl hP hD hS
  unfold xj_sI at h
  split at h
  · simp only [Option.some.injEq, Prod.mk.injEq] at h
    obtain ⟨rfl, rfl, rfl, rfl⟩ := h
    simp only [xj_fit, Bool.and_eq_true, decide_eq_true_eq] at hfit
    obtain ⟨rfl, rfl⟩ := hfit
    exact lv_i2l hx hb hdec rfl (k H locs la hl hP hD hS)
  · simp only [Option.some.injEq, Prod.mk.injEq] at h
    obtain ⟨rfl, rfl, rfl, rfl⟩ := h
    simp only [xj_fit, Bool.and_eq_true, decide_eq_true_eq] at hfit
    obtain ⟨rfl, rfl⟩ := hfit
    exact W.lcmp hx hb hdec (k H locs la hl hP hD hS)
  · rename_i j a r
    split at h
    · rename_i n hsh
      split at h
      · cases h
      · rename_i hin
        simp only [Option.some.injEq, Prod.mk.injEq] at h
        obtain ⟨rfl, rfl, rfl, rfl⟩ := h
        simp only [xj_fit, Bool.and_eq_true, decide_eq_true_eq] at hfit
        obtain ⟨rfl, rfl⟩ := hfit
        exact va_lald hx hb hK hP a 2 (xj_cw_at hsh) rfl hin hdec (k H locs la hl hP hD hS)
    · cases h
  · rename_i x j a r
    split at h
    · rename_i n hsh
      split at h
      · cases h
      · rename_i hin
        simp only [Option.some.injEq, Prod.mk.injEq] at h
        obtain ⟨rfl, rfl, rfl, rfl⟩ := h
        simp only [xj_fit, Bool.and_eq_true, decide_eq_true_eq] at hfit
        obtain ⟨rfl, rfl⟩ := hfit
        have hcw := xj_cw_set (ad := ad) (cA := cA) (S := w.1) (S' := w.1) (σ := w.2.1) (σ' := w.2.1) (τ := w.2.2) (τ' := xj_setL w.2.2 a j.toNatClampNeg x) (c := a) (xj_self hsh) (fun _ _ => rfl) (fun q hq => xj_setL_ne _ _ _ hq) (e := .inl (cA .long, n, .inr (.inl (vp_updL (w.2.2 a) j.toNatClampNeg x)))) (by rw [xj_setL_same]; rfl)
        refine va_last hx hb hK hP hD hS a 2 (xj_cw_at hsh) rfl hin hdec fun H1 locs1 hP1 hD1 hS1 => ?_
        exact k H1 locs1 la hl (by rw [hcw]; exact hP1) (by rw [hcw]; exact hD1) hS1
    · cases h
  · cases h
theorem xj_snJ (hx : p.tables.exec = Jvm.exec) (hb : c.code = cc) (hts : ∀ w ∈ Ts, w.before args s = true) (hown : s.vm.findClass own = some m.cls) (hK : va_K D cl (xj_ty cA) s) (hF : xj_Fl X mi own meth.name s args Ts cl)
    (hG : ∀ ix a, xj_gs X mi ix = some a → ∀ (H : Heap) (locs : List Loc) (pc : Nat) (la : Array Slot) (rest : List Value), va_S A s.heap H locs → decode cc pc = .ok (.getstatic ix, 3) → W p l e R s m args below meth c H locs cells slots Q (F0 m (pc + 3) la (.ref (ad a) :: rest)) → W p l e R s m args below meth c H locs cells slots Q (F0 m pc la rest))
    (h : xj_sJ X mi i nx ls st w = some (pc', ls', st', w')) (hd : xj_dec cc nL pc i nx) (k : xj_Go p l e R s m args below meth c cells slots Q D cl cA A nL ad pc' ls' st' w') : xj_Go p l e R s m args below meth c cells slots Q D cl cA A nL ad pc ls st w := by
  obtain ⟨len, hdec, hfit⟩ := hd
  intro H locs la hl hP hD hS
  unfold xj_sJ at h
  split at h
  · rename_i ix a r
    split at h
    · rename_i ci kf so cj fs hfl hsh
      split at h
      · rename_i hcj
        subst hcj
        obtain ⟨C, T, N, ty0, q1, q2, q3, q4, q5, q6, -, -, -⟩ := hF _ _ _ _ hfl
        split at h
        · rename_i y hk
          simp only [Option.some.injEq, Prod.mk.injEq] at h
          obtain ⟨rfl, rfl, rfl, rfl⟩ := h
          simp only [xj_fit, Bool.and_eq_true, decide_eq_true_eq] at hfit
          obtain ⟨rfl, rfl⟩ := hfit
          exact va_get hx hb hts q2 hown hK hP a (xj_cw_at hsh) q1 kf q5 q6 (fun _ z => z) (by rw [List.getElem?_mapIdx, hk]; rfl) hdec (k H locs la hl hP hD hS)
        · rename_i b hk
          simp only [Option.some.injEq, Prod.mk.injEq] at h
          obtain ⟨rfl, rfl, rfl, rfl⟩ := h
          simp only [xj_fit, Bool.and_eq_true, decide_eq_true_eq] at hfit
          obtain ⟨rfl, rfl⟩ := hfit
          exact va_get hx hb hts q2 hown hK hP a (xj_cw_at hsh) q1 kf q5 q6 (fun _ z => z) (by rw [List.getElem?_mapIdx, hk]; rfl) hdec (k H locs la hl hP hD hS)
        · cases h
      · cases h
    · cases h
  · rename_i ix x a r
    split at h
    · rename_i ci kf so cj fs hfl hsh
      split at h
      · rename_i hcj
        subst hcj
        obtain ⟨C, T, N, ty0, q1, q2, q3, q4, q5, q6, t0, t1, -⟩ := hF _ _ _ _ hfl
        split at h
        · rename_i y hk
          split at h
          · rename_i hso
            simp only [Option.some.injEq, Prod.mk.injEq] at h
            obtain ⟨rfl, rfl, rfl, rfl⟩ := h
            simp only [xj_fit, Bool.and_eq_true, decide_eq_true_eq] at hfit
            obtain ⟨rfl, rfl⟩ := hfit
            have hcw := xj_cw_set (ad := ad) (cA := cA) (S := w.1) (S' := w.1) (σ := w.2.1) (σ' := xj_set w.2.1 a kf x) (τ := w.2.2) (τ' := w.2.2) (c := a) (xj_self hsh) (fun q hq => xj_set_ne _ _ _ hq) (fun _ _ => rfl) (e := .inr (cj, (fs.mapIdx (xj_fv ad (w.2.1 a))).set kf (.int x))) (by rw [xj_set_same]; show Sum.inr (cj, fs.mapIdx (xj_fv ad (upd (w.2.1 a) kf x))) = _; rw [xj_fv_set hk])
            have hlen : kf < (fs.mapIdx (xj_fv ad (w.2.1 a))).length := by rw [List.length_mapIdx]; exact (List.getElem?_eq_some_iff.mp hk).1
            rcases hso with rfl | ⟨rfl, hx01⟩
            · obtain ⟨ht, hfin⟩ := t0 rfl
              refine va_put hx hb hts q2 ty0 q3 q4 hown hK hP hD hS a (xj_cw_at hsh) q1 kf q5 q6 (fun _ z => z) hfin (ty := .int) (by rw [q3 kf q5, ht]) rfl rfl hlen hdec fun H1 locs1 hP1 hD1 hS1 => ?_
              exact k H1 locs1 la hl (by rw [hcw]; exact hP1) (by rw [hcw]; exact hD1) hS1
            · obtain ⟨ht, hfin⟩ := t1 rfl
              have hn : narrow .boolean (.int x) = .int x ∧ fits .boolean (.int x) = true := by
                rcases hx01 with rfl | rfl
                · exact ⟨rfl, rfl⟩
                · exact ⟨rfl, rfl⟩
              refine va_put hx hb hts q2 ty0 q3 q4 hown hK hP hD hS a (xj_cw_at hsh) q1 kf q5 q6 (fun _ z => z) hfin (ty := .boolean) (by rw [q3 kf q5, ht]) hn.1 hn.2 hlen hdec fun H1 locs1 hP1 hD1 hS1 => ?_
              exact k H1 locs1 la hl (by rw [hcw]; exact hP1) (by rw [hcw]; exact hD1) hS1
          · cases h
        · cases h
      · cases h
    · cases h
  · rename_i ix b a r
    split at h
    · rename_i ci kf so cj fs hfl hsh
      split at h
      · rename_i hcj
        subst hcj
        obtain ⟨C, T, N, ty0, q1, q2, q3, q4, q5, q6, -, -, t2⟩ := hF _ _ _ _ hfl
        split at h
        · rename_i hk
          split at h
          · rename_i hso
            simp only [Option.some.injEq, Prod.mk.injEq] at h
            obtain ⟨rfl, rfl, rfl, rfl⟩ := h
            simp only [xj_fit, Bool.and_eq_true, decide_eq_true_eq] at hfit
            obtain ⟨rfl, rfl⟩ := hfit
            obtain ⟨ht, hfin, hdecl, hini⟩ := t2 hso
            have hcw := xj_cw_set (ad := ad) (cA := cA) (S := w.1) (S' := w.1.set a (.inr (cj, fs.set kf (.ref b)))) (σ := w.2.1) (σ' := w.2.1) (τ := w.2.2) (τ' := w.2.2) (c := a) rfl (fun _ _ => rfl) (fun _ _ => rfl) (e := .inr (cj, (fs.mapIdx (xj_fv ad (w.2.1 a))).set kf (.ref (ad b)))) (by show Sum.inr (cj, (fs.set kf (.ref b)).mapIdx (xj_fv ad (w.2.1 a))) = _; rw [xj_fv_ref])
            have hlen : kf < (fs.mapIdx (xj_fv ad (w.2.1 a))).length := by rw [List.length_mapIdx]; exact (List.getElem?_eq_some_iff.mp hk).1
            have hn : narrow (ty0 kf) (.ref (ad b)) = .ref (ad b) ∧ fits (ty0 kf) (.ref (ad b)) = true := by
              rcases ht with ⟨t, ht⟩ | ⟨n, ht⟩
              · rw [ht]; exact ⟨rfl, rfl⟩
              · rw [ht]; exact ⟨rfl, rfl⟩
            refine va_putF hx hb hts q2 ty0 q3 q4 hown hK hP hD hS a (xj_cw_at hsh) q1 kf q5 q6 (fun _ z => z) hfin hini hdecl (q3 kf q5) hn.1 hn.2 hlen hdec fun H1 locs1 hP1 hD1 hS1 => ?_
            exact k H1 locs1 la hl (by rw [hcw]; exact hP1) (by rw [hcw]; exact hD1) hS1
          · cases h
        · cases h
      · cases h
    · cases h
  · rename_i ix
    split at h
    · rename_i a hgs
      simp only [Option.some.injEq, Prod.mk.injEq] at h
      obtain ⟨rfl, rfl, rfl, rfl⟩ := h
      simp only [xj_fit, Bool.and_eq_true, decide_eq_true_eq] at hfit
      obtain ⟨rfl, rfl⟩ := hfit
      exact hG _ _ hgs H locs pc la _ hS hdec (k H locs la hl hP hD hS)
    · cases h
  · cases h
theorem xj_snL (hx : p.tables.exec = Jvm.exec) (hb : c.code = cc) (hK : va_K D cl (xj_ty cA) s) (hV : ∀ a n f, xj_gv X a = some (n, f) → va_T .int (ad a) n (fun j => .int (f j)) A s s.heap)
    (h : xj_sL X i nx ls st w = some (pc', ls', st', w')) (hd : xj_dec cc nL pc i nx) (k : xj_Go p l e R s m args below meth c cells slots Q D cl cA A nL ad pc' ls' st' w') : xj_Go p l e R s m args below meth c cells slots Q D cl cA A nL ad pc ls st w := by
  obtain ⟨len, hdec, hfit⟩ := hd
  intro H locs la hl hP hD hS
  unfold xj_sL at h
  split at h
  · rename_i j a r
    split at h
    · rename_i n hsh
      split at h
      · cases h
      · rename_i hin
        simp only [Option.some.injEq, Prod.mk.injEq] at h
        obtain ⟨rfl, rfl, rfl, rfl⟩ := h
        simp only [xj_fit, Bool.and_eq_true, decide_eq_true_eq] at hfit
        obtain ⟨rfl, rfl⟩ := hfit
        exact va_iald hx hb hK hP a 0 (xj_cw_at hsh) rfl hin hdec (k H locs la hl hP hD hS)
    · cases h
    · split at h
      · rename_i n f hgv
        split at h
        · cases h
        · rename_i hin
          simp only [Option.some.injEq, Prod.mk.injEq] at h
          obtain ⟨rfl, rfl, rfl, rfl⟩ := h
          simp only [xj_fit, Bool.and_eq_true, decide_eq_true_eq] at hfit
          obtain ⟨rfl, rfl⟩ := hfit
          exact va_ti hx hb (hV _ _ _ hgv) hS hin rfl hdec (k H locs la hl hP hD hS)
      · cases h
  · rename_i j a r
    split at h
    · rename_i n hsh
      split at h
      · cases h
      · rename_i hin
        simp only [Option.some.injEq, Prod.mk.injEq] at h
        obtain ⟨rfl, rfl, rfl, rfl⟩ := h
        simp only [xj_fit, Bool.and_eq_true, decide_eq_true_eq] at hfit
        obtain ⟨rfl, rfl⟩ := hfit
        exact va_zald hx hb hK hP a 1 (xj_cw_at hsh) rfl hin hdec (k H locs la hl hP hD hS)
    · cases h
  · rename_i x j a r
    split at h
    · rename_i n hsh
      split at h
      · cases h
      · rename_i hin
        simp only [Option.some.injEq, Prod.mk.injEq] at h
        obtain ⟨rfl, rfl, rfl, rfl⟩ := h
        simp only [xj_fit, Bool.and_eq_true, decide_eq_true_eq] at hfit
        obtain ⟨rfl, rfl⟩ := hfit
        have hcw := xj_cw_set (ad := ad) (cA := cA) (S := w.1) (S' := w.1) (σ := w.2.1) (σ' := xj_set w.2.1 a j.toNatClampNeg x) (τ := w.2.2) (τ' := w.2.2) (c := a) (xj_self hsh) (fun q hq => xj_set_ne _ _ _ hq) (fun _ _ => rfl) (e := .inl (cA .int, n, .inl (upd (w.2.1 a) j.toNatClampNeg x))) (by rw [xj_set_same]; rfl)
        refine va_iast hx hb hK hP hD hS a 0 (xj_cw_at hsh) rfl hin hdec fun H1 locs1 hP1 hD1 hS1 => ?_
        exact k H1 locs1 la hl (by rw [hcw]; exact hP1) (by rw [hcw]; exact hD1) hS1
    · cases h
  · rename_i x j a r
    split at h
    · rename_i n hsh
      split at h
      · cases h
      · rename_i hin
        simp only [Option.some.injEq, Prod.mk.injEq] at h
        obtain ⟨rfl, rfl, rfl, rfl⟩ := h
        simp only [xj_fit, Bool.and_eq_true, decide_eq_true_eq] at hfit
        obtain ⟨rfl, rfl⟩ := hfit
        have hcw := xj_cw_set (ad := ad) (cA := cA) (S := w.1) (S' := w.1) (σ := w.2.1) (σ' := xj_set w.2.1 a j.toNatClampNeg (x &&& 1)) (τ := w.2.2) (τ' := w.2.2) (c := a) (xj_self hsh) (fun q hq => xj_set_ne _ _ _ hq) (fun _ _ => rfl) (e := .inl (cA .boolean, n, .inl (upd (w.2.1 a) j.toNatClampNeg (x &&& 1)))) (by rw [xj_set_same]; rfl)
        refine va_zast hx hb hK hP hD hS a 1 (xj_cw_at hsh) rfl hin hdec fun H1 locs1 hP1 hD1 hS1 => ?_
        exact k H1 locs1 la hl (by rw [hcw]; exact hP1) (by rw [hcw]; exact hD1) hS1
    · cases h
  · rename_i a r
    split at h
    · rename_i n hsh
      simp only [Option.some.injEq, Prod.mk.injEq] at h
      obtain ⟨rfl, rfl, rfl, rfl⟩ := h
      simp only [xj_fit, Bool.and_eq_true, decide_eq_true_eq] at hfit
      obtain ⟨rfl, rfl⟩ := hfit
      exact va_alen hx hb hK hP a 0 (xj_cw_at hsh) (ty := .int) rfl rfl hdec (k H locs la hl hP hD hS)
    · cases h
    · split at h
      · rename_i n f hgv
        simp only [Option.some.injEq, Prod.mk.injEq] at h
        obtain ⟨rfl, rfl, rfl, rfl⟩ := h
        simp only [xj_fit, Bool.and_eq_true, decide_eq_true_eq] at hfit
        obtain ⟨rfl, rfl⟩ := hfit
        exact va_tlen hx hb (hV _ _ _ hgv) hS rfl hdec (k H locs la hl hP hD hS)
      · cases h
  · cases h
theorem xj_snM (hx : p.tables.exec = Jvm.exec) (hb : c.code = cc) (hown : s.vm.findClass own = some m.cls) (hml : c.maxLocals = nL) (hK : va_K D cl (xj_ty cA) s) (hRf : 1 ≤ R.frames) (hRl : 64 ≤ R.locals)
    (hO : ∀ ix a b, xj_ml X mi ix = some (9, a, b) → (Jvm.Cond.methodLink own ix Lib.objectInit).before args s = true ∧ (Jvm.Cond.instanceMethod Lib.objectInit).before args s = true ∧ (Jvm.Cond.code Lib.objectInit ⟨#[0xb1]⟩ 1 none).before args s = true)
    (hC : ∀ ix a b, xj_ml X mi ix = some (8, a, b) → (Jvm.Cond.methodLink own ix arraycopyName).before args s = true ∧ (Jvm.Cond.native arraycopyName).before args s = true ∧ (Jvm.Cond.static arraycopyName).before args s = true ∧ (Jvm.Cond.initialized "java/lang/System").before args s = true)
    (h : xj_sM X mi i nx ls st w = some (pc', ls', st', w')) (hd : xj_dec cc nL pc i nx) (k : xj_Go p l e R s m args below meth c cells slots Q D cl cA A nL ad pc' ls' st' w') : xj_Go p l e R s m args below meth c cells slots Q D cl cA A nL ad pc ls st w := by
  obtain ⟨len, hdec, hfit⟩ := hd
  intro H locs la hl hP hD hS
  have hcat : ∀ r : List Value, ((r.map (xj_cv ad)).map fun v => v.category).sum = (r.map fun v => v.category).sum := by
    intro r
    rw [List.map_map]
    congr 1
    apply List.map_congr_left
    intro v _
    exact xj_cv_cat ad v
  unfold xj_sM at h
  split at h
  · rename_i ix a r
    split at h
    · rename_i q1 q2 hmlk
      split at h
      · rename_i hsum
        simp only [Option.some.injEq, Prod.mk.injEq] at h
        obtain ⟨rfl, rfl, rfl, rfl⟩ := h
        simp only [xj_fit, Bool.and_eq_true, decide_eq_true_eq] at hfit
        obtain ⟨rfl, rfl⟩ := hfit
        obtain ⟨o1, o2, o3⟩ := hO _ _ _ hmlk
        refine W.objInit hx hb hown o1 o2 o3 rfl (by rw [hml]; exact hl.1) rfl hdec hRf ?_ (k H locs la hl hP hD hS)
        have hm0 : (F0 m pc la (Value.ref (ad a) :: r.map (xj_cv ad))).monitorRoom = 0 := rfl
        have hc9 := hcat r
        show 2 * (F0 m pc la (Value.ref (ad a) :: r.map (xj_cv ad))).monitorRoom + ((r.map (xj_cv ad)).map fun v => v.category).sum + 12 ≤ R.locals
        rw [hm0, hc9]
        omega
      · cases h
    · cases h
  · rename_i ix n dp b sp a r
    split at h
    · rename_i q1 q2 na nb hmlk ha hbb
      split at h
      · cases h
      · rename_i hno
        simp only [Option.some.injEq, Prod.mk.injEq] at h
        obtain ⟨rfl, rfl, rfl, rfl⟩ := h
        simp only [xj_fit, Bool.and_eq_true, decide_eq_true_eq] at hfit
        obtain ⟨rfl, rfl⟩ := hfit
        obtain ⟨o1, o2, o3, o4⟩ := hC _ _ _ hmlk
        simp only [not_or] at hno
        obtain ⟨n1, n2, n3, n4, n5, n6⟩ := hno
        have hcw := xj_cw_set (ad := ad) (cA := cA) (S := w.1) (S' := w.1) (σ := w.2.1) (σ' := xj_setA w.2.1 b (va_cpy (w.2.1 a) (w.2.1 b) sp.toNatClampNeg dp.toNatClampNeg n.toNatClampNeg)) (τ := w.2.2) (τ' := w.2.2) (c := b) (xj_self hbb) (fun q hq => xj_setA_ne _ _ hq) (fun _ _ => rfl) (e := .inl (cA .int, nb, .inl (va_cpy (w.2.1 a) (w.2.1 b) sp.toNatClampNeg dp.toNatClampNeg n.toNatClampNeg))) (by rw [xj_setA_same]; rfl)
        have hw9 : nativeFrameWords "java/lang/System" "arraycopy" 5 ≤ 40 := by decide
        have hc9 := hcat r
        refine va_copyi hx hb (hml.trans hl.1.symm) hown o1 o2 o3 o4 hK hP hD hS a b 0 0 (xj_cw_at ha) (xj_cw_at hbb) rfl rfl rfl n1 n2 n3 (by omega) (by omega) (fun _ _ => rfl) hRf (by rw [hc9]; omega) hdec fun H1 locs1 hP1 hD1 hS1 => ?_
        exact k H1 locs1 la hl (by rw [hcw]; exact hP1) (by rw [hcw]; exact hD1) hS1
    · cases h
  · cases h
end XJ2
end
section
/-! all plain steps together -/
theorem xj_or_some {a b : Option xj_F} {f : xj_F} (h : xj_or a b = some f) : a = some f ∨ b = some f := by
  cases a with
  | some q => exact Or.inl h
  | none => exact Or.inr h
section XJ3
variable {p : Program} {l : Launch} {e : Env} {R : Room} {s : State} {m : MethodId} {args : Array Value} {below : List Frame} {meth : Method} {c : Code} {cells slots : Nat} {Q : State → Prop}
variable {D : va_G} {cl : List vw_C} {cA : FieldType → ClassId} {A : Nat → Prop} {nL : Nat} {ad : Nat → Nat} {cc : ByteArray}
variable {X : xj_T} {mi : Nat} {own : String} {Ts : List Jvm.Cond}
variable {i : Instr} {nx pc pc' : Nat} {ls ls' : List (Nat × Value)} {st st' : List Value} {w w' : xj_W}
/-- what the tables owe to a body of our method mi -/
def xj_Tb (X : xj_T) (mi : Nat) (own name : String) (cc : ByteArray) (nL : Nat) (s : State) (args : Array Value) (Ts : List Jvm.Cond) (cl : List vw_C) : Prop :=
  (∀ pc i nx, xj_cd X mi pc = some (i, nx) → xj_dec cc nL pc i nx) ∧ xj_Fl X mi own name s args Ts cl ∧
  (∀ ix a b, xj_ml X mi ix = some (9, a, b) → (Jvm.Cond.methodLink own ix Lib.objectInit).before args s = true ∧ (Jvm.Cond.instanceMethod Lib.objectInit).before args s = true ∧ (Jvm.Cond.code Lib.objectInit ⟨#[0xb1]⟩ 1 none).before args s = true) ∧
  (∀ ix a b, xj_ml X mi ix = some (8, a, b) → (Jvm.Cond.methodLink own ix arraycopyName).before args s = true ∧ (Jvm.Cond.native arraycopyName).before args s = true ∧ (Jvm.Cond.static arraycopyName).before args s = true ∧ (Jvm.Cond.initialized "java/lang/System").before args s = true)
theorem xj_snS (hx : p.tables.exec = Jvm.exec) (hb : c.code = cc) (hts : ∀ w ∈ Ts, w.before args s = true) (hown : s.vm.findClass own = some m.cls) (hml : c.maxLocals = nL) (hK : va_K D cl (xj_ty cA) s) (hRf : 1 ≤ R.frames) (hRl : 64 ≤ R.locals)
    (hT : xj_Tb X mi own meth.name cc nL s args Ts cl)
    (hG : ∀ ix a, xj_gs X mi ix = some a → ∀ (H : Heap) (locs : List Loc) (pc : Nat) (la : Array Slot) (rest : List Value), va_S A s.heap H locs → decode cc pc = .ok (.getstatic ix, 3) → W p l e R s m args below meth c H locs cells slots Q (F0 m (pc + 3) la (.ref (ad a) :: rest)) → W p l e R s m args below meth c H locs cells slots Q (F0 m pc la rest))
    (hV : ∀ a n f, xj_gv X a = some (n, f) → va_T .int (ad a) n (fun j => .int (f j)) A s s.heap)
    (hcd : xj_cd X mi pc = some (i, nx)) (h : xj_step X mi i nx pc ls st w = some (pc', ls', st', w'))
    (k : xj_Go p l e R s m args below meth c cells slots Q D cl cA A nL ad pc' ls' st' w') : xj_Go p l e R s m args below meth c cells slots Q D cl cA A nL ad pc ls st w := by
  obtain ⟨hdc, hF, hO, hC⟩ := hT
  have hd := hdc _ _ _ hcd
  unfold xj_step at h
  rcases xj_or_some h with h | h
  · exact xj_snA hx hb h hd k
  rcases xj_or_some h with h | h
  · exact xj_snB hx hb h hd k
  rcases xj_or_some h with h | h
  · exact xj_snC hx hb h hd k
  rcases xj_or_some h with h | h
  · exact xj_snD hx hb h hd k
  rcases xj_or_some h with h | h
  · exact xj_snE hx hb h hd k
  rcases xj_or_some h with h | h
  · exact xj_snF hx hb h hd k
  rcases xj_or_some h with h | h
  · exact xj_snG hx hb h hd k
  rcases xj_or_some h with h | h
  · exact xj_snJ hx hb hts hown hK hF hG h hd k
  rcases xj_or_some h with h | h
  · exact xj_snL hx hb hK hV h hd k
  rcases xj_or_some h with h | h
  · exact xj_snH hx hb h hd k
  rcases xj_or_some h with h | h
  · exact xj_snI hx hb hK h hd k
  · exact xj_snM hx hb hown hml hK hRf hRl hO hC h hd k
end XJ3
end
section
/-! ===== BEGIN words of one list among another's, by their places ===== -/
theorem goodIn_r {big : List Cond} (ws : List Cond) (ps : List Nat) (hp : ws = ps.filterMap (fun i => big[i]?)) (h : ws.all goodWord = true) : GoodIn big ws := by
  intro w hw
  have h1 := List.all_eq_true.mp h w hw
  rw [hp] at hw
  obtain ⟨i, -, hi⟩ := List.mem_filterMap.mp hw
  have hm : w ∈ big := by first | exact List.mem_of_getElem? hi | exact List.getElem?_mem hi
  exact ⟨hm, good_of_word h1⟩
theorem goodIn_app {big a b : List Cond} (ha : GoodIn big a) (hb : GoodIn big b) : GoodIn big (a ++ b) := fun w h => (List.mem_append.mp h).elim (ha w) (hb w)
theorem goodIn_ca {big a b : List Cond} {c : Cond} (ha : GoodIn big (c :: a)) (hb : GoodIn big b) : GoodIn big (c :: (a ++ b)) := fun w h => (List.mem_cons.mp h).elim (fun e => ha w (List.mem_cons.mpr (Or.inl e))) (fun h => (List.mem_append.mp h).elim (fun h => ha w (List.mem_cons.mpr (Or.inr h))) (hb w))
theorem goodIn_sub {big ws : List Cond} (hm : ∀ w ∈ ws, w ∈ big) (h : ws.all goodWord = true) : GoodIn big ws := fun w hw => ⟨hm w hw, good_of_word (List.all_eq_true.mp h w hw)⟩
/-! ===== END ===== -/

/-! ===== BEGIN exceptions that leave a method, and their catching by the caller (launches without stack traces) ===== -/
section VXA
/-! The laws vx_back, vx_callV, vx_callS, vx_callSW, vx_throw0, vx_throwS follow proofs of the library, with one case more: JvmDerived/Free/Laws.lean (Back.of_free), Shelf42/LK1.lean (callV, callS), Shelf/KitTraced.lean (throwNew0V, throwNewS). -/
/-- where a method has thrown q: the class by its name, the cell, what was written, the world -/
def vx_T (XC : String → State → State → Prop) (st : State) (q : Addr) (t : State) (mc ms : Nat) (free : Addr → Prop) : Prop :=
  ∃ (E : String) (ce : Cell) (L : List Loc), XC E st t ∧ t.heap[q]? = some ce ∧ ce.vm = .none ∧ st.vm.findClass E = some ce.cls ∧ st.WarmedH t.vm ∧ st.sameButNew ({ t with vm := st.vm } : State) L mc ms ∧ ∀ z ∈ L, free z.base
def vx_Q (Qc : Array Value → State → Outcome → State → Prop) (XC : String → State → State → Prop) (mc ms : Nat) (free : Addr → Prop) : Array Value → State → Outcome → State → Prop := fun a st o t =>
  (Qc a st o t ∧ ∃ L, FrameEnd st o t L mc ms ∧ ∀ q ∈ L, free q.base) ∨ ∃ q, o = .threw q ∧ vx_T XC st q t mc ms free
/-- a callee that returns or throws -/
def vx_Met (l : Launch) (y : MethodName) (ws : List Cond) (rm : Room) (Pc : Array Value → State → Prop) (Qc : Array Value → State → Outcome → State → Prop) (XC : String → State → State → Prop) (mc ms : Nat) (free : Addr → Prop) : Prop :=
  MetFree l y (headSpec ws rm) Pc (fun _ _ _ _ _ => True) (vx_Q Qc XC mc ms free)
def vx_Post (XC : String → State → State → Prop) (mc ms : Nat) (free : Addr → Prop) : Pt → Array Value → Addr → Pt → Prop := fun A a q B =>
  ∃ (g : JFrame) (mk : MethodId) (t : State) (L : List Loc) (E : String) (ce : Cell), B.U.heap = t.heap ∧ B.U.vm = t.vm ∧ XC E (A.U.calling g mk a) t ∧ t.heap[q]? = some ce ∧ ce.vm = .none ∧ A.U.vm.findClass E = some ce.cls ∧ B.locs = A.locs ++ L ∧ (∀ z ∈ L, free z.base) ∧ B.cells = A.cells + mc ∧ B.slots = A.slots + ms
def vx_Back (l : Launch) (R : Room) (p : Program) (e : Env) (below : List Frame) (s : State) (sargs : Array Value) (y : MethodName) (len W9 : Nat)
    (Pre : Pt → Array Value → Prop) (Post : Pt → Array Value → Option Value → Pt → Prop) (PostX : Pt → Array Value → Addr → Pt → Prop) : Prop :=
  ∀ (m : MethodId) (meth : Method) (c : Code) (A : Pt) (g : JFrame) (ig : Instr) (mk : MethodId) (a : Array Value),
    Stand p l e R s m sargs below meth c A.U A.locs A.cells A.slots → g.method = m → g.locals.size = c.maxLocals → decode c.code g.pc = .ok (ig, len) →
    2 * g.monitorRoom + (g.stack.map fun v => v.category).sum ≤ W9 → A.U.methodNamed? y = some mk → Pre A a →
    (∃ (v : Option Value) (B : Pt), Stand p l e R s m sargs below meth c B.U B.locs B.cells B.slots ∧ Post A a v B ∧
      Steps p.tables e below (doInvoke e (A.U.setTop g) [] mk a).1 (B.U.setTop { g with pc := g.pc + len, stack := v.toList ++ g.stack })) ∨
    (∃ (q : Addr) (B : Pt), Stand p l e R s m sargs below meth c B.U B.locs B.cells B.slots ∧ PostX A a q B ∧
      Steps p.tables e below (doInvoke e (A.U.setTop g) [] mk a).1 ((B.U.setTop g).pushFrame (.throwing q)))
section Payer
variable {l : Launch} {R : Room} {p : Program} {e : Env} {below : List Frame} {s : State} {sargs : Array Value} {y : MethodName} {len W9 : Nat}
theorem vx_back {ws : List Cond} {rm : Room} {Pc : Array Value → State → Prop} {Qc : Array Value → State → Outcome → State → Prop} {XC : String → State → State → Prop} {mc ms : Nat} {free : Addr → Prop} {bytes : ByteArray} {maxL : Nat} {ret : Option FieldType}
    (hM : vx_Met l y ws rm Pc Qc XC mc ms free) (hblind : FrameBlind Pc) (hrc : rm.cells = mc) (hrs : rm.slots = ms)
    (hframes : rm.frames + 1 ≤ R.frames) (hlocals : W9 + (maxL + 11) + rm.locals ≤ R.locals)
    (hws : ∀ w ∈ ws, ∀ a' U, s.WarmedH U.vm → w.before a' U = true) (hcode : Cond.code y bytes maxL ret ∈ ws) (hinit : ∀ a' U, s.WarmedH U.vm → (Cond.initialized y.cls).before a' U = true) :
    vx_Back l R p e below s sargs y len W9 (PreOf R mc ms Pc) (PostOf Qc mc ms free) (vx_Post XC mc ms free) := by
  intro m meth c A g ig mk a X hg hsize hdg hW hn hp
  have h1 : (headSpec ws rm).pre.before a A.U = true := atoms_intro fun w hw => hws w hw _ _ X.warmed
  have h2 : (Cond.code y bytes maxL ret).before a A.U = true := hws _ hcode _ _ X.warmed
  have h3 : (Cond.initialized y.cls).before a A.U = true := hinit _ _ X.warmed
  have h4 : A.cells + (headSpec ws rm).room.cells ≤ R.cells := by rw [show (headSpec ws rm).room.cells = mc from hrc]; exact hp.1
  have h5 : A.slots + (headSpec ws rm).room.slots ≤ R.slots := by rw [show (headSpec ws rm).room.slots = ms from hrs]; exact hp.2.1
  have hPc : Pc a (A.U.calling g mk a) := hblind _ _ _ _ hp.2.2
  obtain ⟨U, Ls, c0, s0⟩ := A
  dsimp only [Pt.U, Pt.locs, Pt.cells, Pt.slots] at h1 h2 h3 h4 h5 X hn hPc ⊢
  obtain ⟨methY, cY, hmY, hcY, -, hlY, -, -, -, -⟩ := Cond.code_spec hn h2
  obtain ⟨kY, hkY, -⟩ := className_of_methodNamed hn
  have hinitY : kY.init = .initialized := Cond.initialized_spec (findClass_of_methodNamed hn) hkY h3
  have h : At U g.method c below := by rw [hg]; exact X.here
  have hlocals9 : W9 + (maxL + 11) + (headSpec ws rm).room.locals ≤ R.locals := hlocals
  have happ : (headSpec ws rm).appliesLoose y e.platform (U.calling g mk a) = true :=
    Spec.appliesLoose_calling (g := g) h hdg hn hkY hinitY
      (X.room_calling (g := g) (R' := (headSpec ws rm).room) hsize hmY hcY hframes (by rw [hlY]; omega) h4 h5) h1
  obtain ⟨mid, hmid⟩ := h.above
  have hfr : (U.setTop g).frames = (.java g :: mid) ++ below := by rw [State.frames_setTop' g h.top, hmid]; rfl
  obtain ⟨o, s₂, hsteps, -, hend, hq⟩ := Steps.callFree hM p X.admits X.cas X.clock (acts := []) hfr happ hPc trivial
  have hq' : vx_Q Qc XC mc ms free a (U.calling g mk a) o s₂ := hq
  rw [State.frames_setTop' g h.top] at hend
  obtain ⟨g₀, hg0⟩ := Option.isSome_iff_exists.mp h.top
  obtain ⟨r, hr⟩ := State.topJava?_eq_some.mp hg0
  have hr' : (({ U with heap := s₂.heap, slotsUsed := s₂.slotsUsed } : State).setVm s₂.vm).frames = .java g₀ :: r := hr
  rcases hq' with ⟨hqc, L, hfe, hL⟩ | ⟨q, rfl, E, ce, L, hx, hce, hcv, hcl, hW₂, hsm, hL⟩
  · obtain ⟨⟨v, rfl⟩, hW₂, e2, q2, q3, q4, q5, q6⟩ := id hfe
    have e3 : s₂ = ({ (U.calling g mk a).setFrames s₂.frames with heap := s₂.heap, slotsUsed := s₂.slotsUsed } : State).setVm s₂.vm := by
      have : s₂ = ({ s₂ with vm := (U.calling g mk a).vm } : State).setVm s₂.vm := rfl
      rw [e2] at this
      exact this
    obtain ⟨c₂, i₂, len₂, hc₂, hd₂, hf₂⟩ := hend
    have hW' : U.WarmedH s₂.vm := hW₂
    have hcc : c₂ = c := by
      have h1 : s₂.code? g.method = U.code? g.method := by
        rw [State.code?_eq, State.code?_eq, hW'.alike.method?]
      exact Option.some.inj (hc₂.symm.trans (h1.trans h.code))
    subst hcc
    have hlen : len₂ = len := by rw [hdg] at hd₂; cases hd₂; rfl
    subst hlen
    have hs₂ : s₂ = (({ U with heap := s₂.heap, slotsUsed := s₂.slotsUsed } : State).setVm s₂.vm).setTop { g with pc := g.pc + len₂, stack := v.toList ++ g.stack } := by
      refine e3.trans ?_
      rw [hf₂, State.calling_eq h.top, State.setFrames_setFrames, State.setTop_of_frames _ hr', hr]
      rfl
    have hsame : U.sameButNew ({ U with heap := s₂.heap, slotsUsed := s₂.slotsUsed } : State) L mc ms := by
      refine ⟨?_, q2, q3, q4, q5, q6⟩
      obtain ⟨t, ht, -⟩ := State.frames_cons hr
      show ({ U with heap := s₂.heap, slotsUsed := s₂.slotsUsed } : State) = { U.setFrames U.frames with heap := s₂.heap, slotsUsed := s₂.slotsUsed }
      rw [State.setFrames_self ht]
    subst hg
    refine Or.inl ⟨v, ⟨(({ U with heap := s₂.heap, slotsUsed := s₂.slotsUsed } : State).setVm s₂.vm), Ls ++ L, c0 + mc, s0 + ms⟩,
      ⟨X.admits, X.cas, X.clock, X.frames, X.room, X.hears, X.method, X.code, (X.here.setHeapUsed s₂.heap s₂.slotsUsed).setVm hW'.alike, X.tail, State.WarmedH.trans X.warmed hW', X.limits, X.bytes, X.same.trans (hsame.setVm s.vm)⟩,
      ⟨g, mk, s₂, L, rfl, rfl, hqc, rfl, hL, rfl, rfl⟩, ?_⟩
    show Steps p.tables e below _ ((({ U with heap := s₂.heap, slotsUsed := s₂.slotsUsed } : State).setVm s₂.vm).setTop { g with pc := g.pc + len₂, stack := v.toList ++ g.stack })
    rw [← hs₂]
    exact hsteps
  · obtain ⟨e2, q2, q3, q4, q5, q6⟩ := id hsm
    have e3 : s₂ = ({ (U.calling g mk a).setFrames s₂.frames with heap := s₂.heap, slotsUsed := s₂.slotsUsed } : State).setVm s₂.vm := by
      have : s₂ = ({ s₂ with vm := (U.calling g mk a).vm } : State).setVm s₂.vm := rfl
      rw [e2] at this
      exact this
    have hf₂ : s₂.frames = .throwing q :: .java g :: U.frames.tail := hend
    have hW' : U.WarmedH s₂.vm := hW₂
    have hs₂ : s₂ = ((({ U with heap := s₂.heap, slotsUsed := s₂.slotsUsed } : State).setVm s₂.vm).setTop g).pushFrame (.throwing q) := by
      refine e3.trans ?_
      rw [hf₂, State.calling_eq h.top, State.setFrames_setFrames, State.pushFrame, State.frames_setTop _ hr', State.setTop_of_frames _ hr', State.setFrames_setFrames, hr]
      rfl
    have hsame : U.sameButNew ({ U with heap := s₂.heap, slotsUsed := s₂.slotsUsed } : State) L mc ms := by
      refine ⟨?_, q2, q3, q4, q5, q6⟩
      obtain ⟨t, ht, -⟩ := State.frames_cons hr
      show ({ U with heap := s₂.heap, slotsUsed := s₂.slotsUsed } : State) = { U.setFrames U.frames with heap := s₂.heap, slotsUsed := s₂.slotsUsed }
      rw [State.setFrames_self ht]
    subst hg
    refine Or.inr ⟨q, ⟨(({ U with heap := s₂.heap, slotsUsed := s₂.slotsUsed } : State).setVm s₂.vm), Ls ++ L, c0 + mc, s0 + ms⟩,
      ⟨X.admits, X.cas, X.clock, X.frames, X.room, X.hears, X.method, X.code, (X.here.setHeapUsed s₂.heap s₂.slotsUsed).setVm hW'.alike, X.tail, State.WarmedH.trans X.warmed hW', X.limits, X.bytes, X.same.trans (hsame.setVm s.vm)⟩,
      ⟨g, mk, s₂, L, E, ce, rfl, rfl, hx, hce, hcv, hcl, rfl, hL, rfl, rfl⟩, ?_⟩
    show Steps p.tables e below _ (((({ U with heap := s₂.heap, slotsUsed := s₂.slotsUsed } : State).setVm s₂.vm).setTop g).pushFrame (.throwing q))
    rw [← hs₂]
    exact hsteps
end Payer
section Calls
variable {p : Program} {l : Launch} {e : Env} {R : Room} {s : State} {m : MethodId} {args : Array Value} {below : List Frame} {meth : Method} {c : Code} {T : State} {locs : List Loc} {cells slots : Nat}
theorem vx_callV (X : Stand p l e R s m args below meth c T locs cells slots) (hexec : p.tables.exec = Jvm.exec) {own C : String} {index : Nat} {y : MethodName} {bytes : ByteArray} {maxL : Nat} {ret : Option FieldType}
    (hown : s.vm.findClass own = some m.cls) (hlink : (Cond.methodLink own index y).before args s = true) (hinst : (Cond.instanceMethod y).before args s = true) (hsel : (Cond.selects C y y).before args s = true)
    (hcode : (Cond.code y bytes maxL ret).before args s = true) (hy : y.cls ≠ "java/lang/invoke/MethodHandle" ∧ y.cls ≠ "java/lang/invoke/VarHandle")
    {W9 : Nat} {Pre : Pt → Array Value → Prop} {Post : Pt → Array Value → Option Value → Pt → Prop} {PostX : Pt → Array Value → Addr → Pt → Prop} (hK : vx_Back l R p e below s args y 3 W9 Pre Post PostX)
    {b : Addr} {cellB : Cell} (hcell : T.heap[b]? = some cellB) (hobj : cellB.vm.isStatics = false) (hcls : s.vm.findClass C = some cellB.cls)
    {g : JFrame} (hg : g.method = m) (hsize : g.locals.size = c.maxLocals) {argsL rest : List Value} (hlen : ∀ sig, parseMethodDescriptor y.desc = some sig → argsL.length = sig.parameters.length)
    (hstack : g.stack = argsL.reverse ++ .ref b :: rest) (hW : 2 * g.monitorRoom + (rest.map fun v => v.category).sum ≤ W9) (hdg : decode c.code g.pc = .ok (.invokevirtual index, 3))
    (hpre : ∀ vm₁, s.WarmedH vm₁ → Pre ⟨T.setVm vm₁, locs, cells, slots⟩ (Value.ref b :: argsL).toArray) :
    (∃ (v : Option Value) (vm₁ : Vm) (B : Pt), s.WarmedH vm₁ ∧ Stand p l e R s m args below meth c B.U B.locs B.cells B.slots ∧ Post ⟨T.setVm vm₁, locs, cells, slots⟩ (Value.ref b :: argsL).toArray v B ∧
      ∀ target, Steps p.tables e below (B.U.setTop { g with pc := g.pc + 3, stack := v.toList ++ rest }) target → Steps p.tables e below (T.setTop g) target) ∨
    (∃ (q : Addr) (vm₁ : Vm) (B : Pt), s.WarmedH vm₁ ∧ Stand p l e R s m args below meth c B.U B.locs B.cells B.slots ∧ PostX ⟨T.setVm vm₁, locs, cells, slots⟩ (Value.ref b :: argsL).toArray q B ∧
      Steps p.tables e below (T.setTop g) ((B.U.setTop { g with stack := rest }).pushFrame (.throwing q))) := by
  obtain ⟨mk, methM, hnamed, hmethM, hstM, habM⟩ := Cond.instanceMethod_spec hinst
  obtain ⟨methM', cM, hmethM', -, -, -, -, -, -, hsigM⟩ := Cond.code_spec hnamed hcode
  cases hmethM.symm.trans hmethM'
  obtain ⟨c2, r2, m2, q1, q2, q3, q4, kP, hkP, hkPi⟩ := Cond.selects_spec hsel
  cases hcls.symm.trans q1
  cases (State.methodFound?_of_named hnamed hy).symm.trans q2
  cases hnamed.symm.trans q3
  have hselP : selectMethod e.platform s.vm cellB.cls mk = .method mk := by rw [Launch.admits_selectMethod X.admits]; exact q4
  obtain ⟨vm₁, X₁, hstep₁⟩ := X.invokevirtual hexec hown hlink hnamed hmethM hstM hkP hkPi hy (a := b) (cell := cellB) hcell
    (fun z h => by rw [h] at hobj; cases hobj) hselP hmethM habM hkP hkPi (g := g) hg (argsL := argsL) (rest := rest) (hlen _ hsigM) hstack hdg
  rcases hK m meth c ⟨T.setVm vm₁, locs, cells, slots⟩ { g with stack := rest } (.invokevirtual index) mk (Value.ref b :: argsL).toArray X₁ hg hsize hdg hW (X₁.named hnamed) (hpre vm₁ X₁.warmed) with ⟨v, B, X', hpost, hsteps⟩ | ⟨q, B, X', hpost, hsteps⟩
  · exact Or.inl ⟨v, vm₁, B, X₁.warmed, X', hpost, fun target h => hstep₁ _ fun acts => by rw [doInvoke_state]; exact hsteps.trans h⟩
  · exact Or.inr ⟨q, vm₁, B, X₁.warmed, X', hpost, hstep₁ _ fun acts => by rw [doInvoke_state]; exact hsteps⟩
theorem vx_callS (X : Stand p l e R s m args below meth c T locs cells slots) (hexec : p.tables.exec = Jvm.exec) {own : String} {index : Nat} {y : MethodName} {bytes : ByteArray} {maxL : Nat} {ret : Option FieldType}
    (hown : s.vm.findClass own = some m.cls) (hlink : (Cond.methodLink own index y).before args s = true) (hstat : (Cond.static y).before args s = true) (hinit : (Cond.initialized y.cls).before args s = true)
    (hcode : (Cond.code y bytes maxL ret).before args s = true) (hy : y.cls ≠ "java/lang/invoke/MethodHandle" ∧ y.cls ≠ "java/lang/invoke/VarHandle")
    {W9 : Nat} {Pre : Pt → Array Value → Prop} {Post : Pt → Array Value → Option Value → Pt → Prop} {PostX : Pt → Array Value → Addr → Pt → Prop} (hK : vx_Back l R p e below s args y 3 W9 Pre Post PostX)
    {g : JFrame} (hg : g.method = m) (hsize : g.locals.size = c.maxLocals) {argsL rest : List Value} (hlen : ∀ sig, parseMethodDescriptor y.desc = some sig → argsL.length = sig.parameters.length)
    (hstack : g.stack = argsL.reverse ++ rest) (hW : 2 * g.monitorRoom + (rest.map fun v => v.category).sum ≤ W9) (hdg : decode c.code g.pc = .ok (.invokestatic index, 3))
    (hpre : ∀ vm₁, s.WarmedH vm₁ → Pre ⟨T.setVm vm₁, locs, cells, slots⟩ argsL.toArray) :
    (∃ (v : Option Value) (vm₁ : Vm) (B : Pt), s.WarmedH vm₁ ∧ Stand p l e R s m args below meth c B.U B.locs B.cells B.slots ∧ Post ⟨T.setVm vm₁, locs, cells, slots⟩ argsL.toArray v B ∧
      ∀ target, Steps p.tables e below (B.U.setTop { g with pc := g.pc + 3, stack := v.toList ++ rest }) target → Steps p.tables e below (T.setTop g) target) ∨
    (∃ (q : Addr) (vm₁ : Vm) (B : Pt), s.WarmedH vm₁ ∧ Stand p l e R s m args below meth c B.U B.locs B.cells B.slots ∧ PostX ⟨T.setVm vm₁, locs, cells, slots⟩ argsL.toArray q B ∧
      Steps p.tables e below (T.setTop g) ((B.U.setTop { g with stack := rest }).pushFrame (.throwing q))) := by
  obtain ⟨mk, hnamed⟩ := Cond.code_named hcode
  obtain ⟨methM, cM, hmethM, -, -, -, -, -, -, hsigM⟩ := Cond.code_spec hnamed hcode
  have hstatic : methM.isStatic = true := Cond.static_spec hnamed hmethM hstat
  obtain ⟨kP, hkP, -⟩ := className_of_methodNamed hnamed
  have hinitP : kP.init = .initialized := Cond.initialized_spec (findClass_of_methodNamed hnamed) hkP hinit
  obtain ⟨vm₁, X₁, hstep₁⟩ := X.invokestatic hexec hown hlink hnamed hmethM hstatic hkP hinitP hy (g := g) hg (argsL := argsL) (rest := rest) (hlen _ hsigM) hstack hdg
  rcases hK m meth c ⟨T.setVm vm₁, locs, cells, slots⟩ { g with stack := rest } (.invokestatic index) mk argsL.toArray X₁ hg hsize hdg hW (X₁.named hnamed) (hpre vm₁ X₁.warmed) with ⟨v, B, X', hpost, hsteps⟩ | ⟨q, B, X', hpost, hsteps⟩
  · exact Or.inl ⟨v, vm₁, B, X₁.warmed, X', hpost, fun target h => hstep₁ _ fun acts => by rw [doInvoke_state]; exact hsteps.trans h⟩
  · exact Or.inr ⟨q, vm₁, B, X₁.warmed, X', hpost, hstep₁ _ fun acts => by rw [doInvoke_state]; exact hsteps⟩
end Calls
theorem vx_cls {s : State} {T : State} {vm₁ : Vm} {E : String} {k : ClassId} (hW : s.WarmedH vm₁) (h : (T.setVm vm₁).vm.findClass E = some k) : s.vm.findClass E = some k := by
  have h1 : vm₁.findClass E = some k := h
  rw [hW.alike.findClass] at h1
  exact h1
/-- the method's frame g, with q thrown over it -/
def vx_W (p : Program) (l : Launch) (e : Env) (R : Room) (s : State) (m : MethodId) (args : Array Value) (below : List Frame) (meth : Method) (c : Code) (H : Heap) (locs : List Loc) (cells slots : Nat) (Q : State → Prop) (g : JFrame) (q : Addr) : Prop :=
  ∀ T : State, T.heap = H → Stand p l e R s m args below meth c T locs cells slots → ∃ t, Steps p.tables e below ((T.setTop g).pushFrame (.throwing q)) t ∧ Q t
def vx_Run (p : Program) (l : Launch) (e : Env) (R : Room) (s : State) (m : MethodId) (args : Array Value) (below : List Frame) (meth : Method) (c : Code) (H : Heap) (locs : List Loc) (cells slots mc ms : Nat) (g : JFrame) (rest : List Value) (Qa : State → Outcome → State → Prop) (XC : String → State → State → Prop) (free : Addr → Prop) : Prop :=
  ∀ T : State, T.heap = H → Stand p l e R s m args below meth c T locs cells slots →
    (∃ (v : Option Value) (st₀ t T' : State) (L : List Loc), st₀.heap = H ∧ Stand p l e R s m args below meth c T' (locs ++ L) (cells + mc) (slots + ms) ∧ (∀ q ∈ L, free q.base) ∧ T'.heap = t.heap ∧ T'.vm = t.vm ∧ Qa st₀ (.returned v) t ∧
      Goes p e below T g T' { g with pc := g.pc + 3, stack := v.toList ++ rest }) ∨
    (∃ (q : Addr) (st₀ t T' : State) (L : List Loc) (E : String) (ce : Cell), st₀.heap = H ∧ Stand p l e R s m args below meth c T' (locs ++ L) (cells + mc) (slots + ms) ∧ (∀ z ∈ L, free z.base) ∧ T'.heap = t.heap ∧ T'.vm = t.vm ∧ XC E st₀ t ∧ t.heap[q]? = some ce ∧ ce.vm = .none ∧ s.vm.findClass E = some ce.cls ∧
      Steps p.tables e below (T.setTop g) ((T'.setTop { g with stack := rest }).pushFrame (.throwing q)))
def vx_X {S : Type} (px : S → Prop) (B : String → S → State → Prop) (A : Nat → Prop) : String → State → State → Prop := fun E st t => ∃ u : S, px u ∧ B E u t ∧ va_F A st t
section Runs
variable {p : Program} {l : Launch} {e : Env} {R : Room} {s : State} {m : MethodId} {args : Array Value} {below : List Frame} {meth : Method} {c : Code} {H : Heap} {locs : List Loc} {cells slots : Nat}
variable {y : MethodName} {bytes cc : ByteArray} {maxL nL mc ms n index : Nat} {ret : Option FieldType} {ws : List Cond} {rm : Room} {Pc : Array Value → State → Prop} {Qc : Array Value → State → Outcome → State → Prop} {XC : String → State → State → Prop} {free : Addr → Prop} {Ts : List Cond} {own C : String} {b : Addr} {As rest : List Value} {g : JFrame}
theorem vx_callBack (cb : CallB R s args own index y bytes maxL ret ws rm mc ms n) (hM : vx_Met l y ws rm Pc Qc XC mc ms free) (hbl : FrameBlind Pc) : vx_Back l R p e below s args y 3 8 (PreOf R mc ms Pc) (PostOf Qc mc ms free) (vx_Post XC mc ms free) := by
  obtain ⟨hrc, hrs, hfr, hlo, hws, hcw, -, hini, -⟩ := cb
  exact vx_back (bytes := bytes) (maxL := maxL) (ret := ret) hM hbl hrc hrs hfr hlo hws hcw (fun a' U hW => word_at hW (Or.inl (by first | rfl | simp [Cond.onTables, Cond.keeps, Cond.steady])) hini)
theorem vx_runV (S : CallFix p m c cc nL s args Ts own) (hM : vx_Met l y ws rm Pc Qc XC mc ms free) (cw : CallW R s args own C index y bytes maxL ret ws rm mc ms n) (hp : PreV s H C b Pc As)
    (hg : g.method = m) (hn : As.length = n) (hsize : g.locals.size = nL) (hstack : g.stack = As.reverse ++ .ref b :: rest) (hW : 2 * g.monitorRoom + (rest.map fun v => v.category).sum ≤ 8) (hdg : decode cc g.pc = .ok (.invokevirtual index, 3)) (hf : cells + mc ≤ R.cells ∧ slots + ms ≤ R.slots) :
    vx_Run p l e R s m args below meth c H locs cells slots mc ms g rest (Qc (Value.ref b :: As).toArray) XC free := by
  have hK : vx_Back l R p e below s args y 3 8 (PreOf R mc ms Pc) (PostOf Qc mc ms free) (vx_Post XC mc ms free) := vx_callBack cw.1 hM hp.1
  obtain ⟨⟨-, -, -, -, -, -, hcode, -, hy, hlen, hl⟩, hin, hse⟩ := cw
  obtain ⟨hx, hb, hml, ho, -⟩ := S
  obtain ⟨-, ⟨cellB, hcB, hoB, hclB⟩, hPc⟩ := hp
  intro T hT X
  rcases vx_callV X hx (C := C) (bytes := bytes) (maxL := maxL) (ret := ret) ho hl hin hse hcode hy hK (by rw [hT]; exact hcB) hoB hclB hg (hsize.trans hml.symm) (argsL := As) (rest := rest) (fun sig h => hn.trans (hlen sig h)) hstack hW (by rw [hb]; exact hdg)
    (fun vm₁ hW₁ => ⟨hf.1, hf.2, hPc (T.setVm vm₁) hT hW₁⟩) with ⟨v, vm₁, ⟨U', l2, c2, s2⟩, hW₁, X', ⟨g', mk, t, L, e1, e2, hq, h1, hL, h2, h3⟩, st⟩ | ⟨q, vm₁, ⟨U', l2, c2, s2⟩, hW₁, X', ⟨g', mk, t, L, E, ce, e1, e2, hq, hce, hcv, hcl, h1, hL, h2, h3⟩, st⟩
  · dsimp only [Pt.U, Pt.locs, Pt.cells, Pt.slots] at X' e1 e2 h1 h2 h3 st
    subst h1; subst h2; subst h3
    exact Or.inl ⟨v, (T.setVm vm₁).calling g' mk (Value.ref b :: As).toArray, t, U', L, hT, X', hL, e1, e2, hq, st⟩
  · dsimp only [Pt.U, Pt.locs, Pt.cells, Pt.slots] at X' e1 e2 h1 h2 h3 st hcl
    subst h1; subst h2; subst h3
    exact Or.inr ⟨q, (T.setVm vm₁).calling g' mk (Value.ref b :: As).toArray, t, U', L, E, ce, hT, X', hL, e1, e2, hq, hce, hcv, vx_cls hW₁ hcl, st⟩
theorem vx_runS (S : CallFix p m c cc nL s args Ts own) (hM : vx_Met l y ws rm Pc Qc XC mc ms free) (cw : CallB R s args own index y bytes maxL ret ws rm mc ms n ∧ (Cond.static y).before args s = true) (hp : PreS s H Pc As)
    (hg : g.method = m) (hn : As.length = n) (hsize : g.locals.size = nL) (hstack : g.stack = As.reverse ++ rest) (hW : 2 * g.monitorRoom + (rest.map fun v => v.category).sum ≤ 8) (hdg : decode cc g.pc = .ok (.invokestatic index, 3)) (hf : cells + mc ≤ R.cells ∧ slots + ms ≤ R.slots) :
    vx_Run p l e R s m args below meth c H locs cells slots mc ms g rest (Qc As.toArray) XC free := by
  have hK : vx_Back l R p e below s args y 3 8 (PreOf R mc ms Pc) (PostOf Qc mc ms free) (vx_Post XC mc ms free) := vx_callBack cw.1 hM hp.1
  obtain ⟨⟨-, -, -, -, -, -, hcode, hini, hy, hlen, hl⟩, hstt⟩ := cw
  obtain ⟨hx, hb, hml, ho, -⟩ := S
  intro T hT X
  rcases vx_callS X hx (bytes := bytes) (maxL := maxL) (ret := ret) ho hl hstt hini hcode hy hK hg (hsize.trans hml.symm) (argsL := As) (rest := rest) (fun sig h => hn.trans (hlen sig h)) hstack hW (by rw [hb]; exact hdg)
    (fun vm₁ hW₁ => ⟨hf.1, hf.2, hp.2 (T.setVm vm₁) hT hW₁⟩) with ⟨v, vm₁, ⟨U', l2, c2, s2⟩, hW₁, X', ⟨g', mk, t, L, e1, e2, hq, h1, hL, h2, h3⟩, st⟩ | ⟨q, vm₁, ⟨U', l2, c2, s2⟩, hW₁, X', ⟨g', mk, t, L, E, ce, e1, e2, hq, hce, hcv, hcl, h1, hL, h2, h3⟩, st⟩
  · dsimp only [Pt.U, Pt.locs, Pt.cells, Pt.slots] at X' e1 e2 h1 h2 h3 st
    subst h1; subst h2; subst h3
    exact Or.inl ⟨v, (T.setVm vm₁).calling g' mk As.toArray, t, U', L, hT, X', hL, e1, e2, hq, st⟩
  · dsimp only [Pt.U, Pt.locs, Pt.cells, Pt.slots] at X' e1 e2 h1 h2 h3 st hcl
    subst h1; subst h2; subst h3
    exact Or.inr ⟨q, (T.setVm vm₁).calling g' mk As.toArray, t, U', L, E, ce, hT, X', hL, e1, e2, hq, hce, hcv, vx_cls hW₁ hcl, st⟩
end Runs
section Rows
variable {p : Program} {l : Launch} {e : Env} {R : Room} {s : State} {m : MethodId} {args : Array Value} {below : List Frame} {meth : Method} {c : Code} {H : Heap} {locs : List Loc} {cells slots : Nat} {Q : State → Prop}
variable {mc ms : Nat} {free : Addr → Prop} {A0 A1 : Nat → Prop} {H0 : Heap} {a : Array Value} {pc : Nat} {ls : Array Slot} {st0 rest : List Value}
theorem vx_keep {st₀ t T' : State} {L : List Loc} (h0 : st₀.heap = H) (e1 : T'.heap = t.heap) (hS : va_S A0 H0 H locs) (hA : ∀ q, q < H.size → A1 q → A0 q) (hf : ∀ q, free q → A0 q) (hL : ∀ q ∈ L, free q.base) (hF : va_F A1 st₀ t) :
    H.size ≤ T'.heap.size ∧ (∀ q : Nat, q < H.size → ¬ A1 q → T'.heap[q]? = H[q]?) ∧ va_S A0 H0 T'.heap (locs ++ L) := by
  obtain ⟨hz, hk⟩ := hF
  rw [h0] at hz hk
  exact ⟨by rw [e1]; exact hz, fun q h1 h2 => by rw [e1]; exact hk q h1 h2,
    ⟨Nat.le_trans hS.1 (by rw [e1]; exact hz), fun q h1 h2 => by rw [e1, hk q (Nat.lt_of_lt_of_le h1 hS.1) (fun z => h2 (hA q (Nat.lt_of_lt_of_le h1 hS.1) z))]; exact hS.2.1 q h1 h2, fun q hq => by
      rcases List.mem_append.mp hq with h | h
      · exact hS.2.2 q h
      · exact hf _ (hL q h)⟩⟩
theorem vx_calli {S SX : Type} {post : Int32 → S → Prop} {px : SX → Prop} {B : S → State → Prop} {BX : String → SX → State → Prop} {AX : Nat → Prop} (hr : vx_Run p l e R s m args below meth c H locs cells slots mc ms (F0 m pc ls st0) rest (va_Qi post B A1 a) (vx_X px BX AX) free) (hS : va_S A0 H0 H locs) (hA : ∀ q, q < H.size → A1 q → A0 q) (hf : ∀ q, free q → A0 q) (hAX : ∀ q, q < H.size → AX q → A0 q)
    (kx : ∀ (E : String) (ce : Cell) (q9 : Addr) (u : SX) (t : State) (H1 : Heap) (locs1 : List Loc), t.heap = H1 → s.vm.Alike t.vm → px u → BX E u t → H.size ≤ H1.size → (∀ q : Nat, q < H.size → ¬ AX q → H1[q]? = H[q]?) → va_S A0 H0 H1 locs1 → H1[q9]? = some ce → ce.vm = .none → s.vm.findClass E = some ce.cls → vx_W p l e R s m args below meth c H1 locs1 (cells + mc) (slots + ms) Q (F0 m pc ls rest) q9)
    (kk : ∀ (r : Int32) (u : S) (t : State) (H1 : Heap) (locs1 : List Loc), t.heap = H1 → s.vm.Alike t.vm → post r u → B u t → H.size ≤ H1.size → (∀ q : Nat, q < H.size → ¬ A1 q → H1[q]? = H[q]?) → va_S A0 H0 H1 locs1 → W p l e R s m args below meth c H1 locs1 (cells + mc) (slots + ms) Q (F0 m (pc + 3) ls (.int r :: rest))) : W p l e R s m args below meth c H locs cells slots Q (F0 m pc ls st0) := by
  intro T hT X
  rcases hr T hT X with ⟨v, st₀, t, T', L, h0, X', hL, e1, e2, ⟨⟨r, u, hv, hp, hb⟩, hF⟩, st⟩ | ⟨q, st₀, t, T', L, E, ce, h0, X', hL, e1, e2, ⟨u, hp, hb, hF⟩, hce, hcv, hcl, st⟩
  · cases hv
    obtain ⟨k1, k2, k3⟩ := vx_keep h0 e1 hS hA hf hL hF
    obtain ⟨t2, a1, b1⟩ := kk r u t T'.heap (locs ++ L) e1.symm (by rw [← e2]; exact X'.warmed.alike) hp hb k1 k2 k3 T' rfl X'
    exact ⟨t2, st t2 a1, b1⟩
  · obtain ⟨k1, k2, k3⟩ := vx_keep h0 e1 hS hAX hf hL hF
    obtain ⟨t2, a1, b1⟩ := kx E ce q u t T'.heap (locs ++ L) e1.symm (by rw [← e2]; exact X'.warmed.alike) hp hb k1 k2 k3 (by rw [e1]; exact hce) hcv hcl T' rfl X'
    exact ⟨t2, st.trans a1, b1⟩
theorem vx_calll {S SX : Type} {post : Int64 → S → Prop} {px : SX → Prop} {B : S → State → Prop} {BX : String → SX → State → Prop} {AX : Nat → Prop} (hr : vx_Run p l e R s m args below meth c H locs cells slots mc ms (F0 m pc ls st0) rest (va_Ql post B A1 a) (vx_X px BX AX) free) (hS : va_S A0 H0 H locs) (hA : ∀ q, q < H.size → A1 q → A0 q) (hf : ∀ q, free q → A0 q) (hAX : ∀ q, q < H.size → AX q → A0 q)
    (kx : ∀ (E : String) (ce : Cell) (q9 : Addr) (u : SX) (t : State) (H1 : Heap) (locs1 : List Loc), t.heap = H1 → s.vm.Alike t.vm → px u → BX E u t → H.size ≤ H1.size → (∀ q : Nat, q < H.size → ¬ AX q → H1[q]? = H[q]?) → va_S A0 H0 H1 locs1 → H1[q9]? = some ce → ce.vm = .none → s.vm.findClass E = some ce.cls → vx_W p l e R s m args below meth c H1 locs1 (cells + mc) (slots + ms) Q (F0 m pc ls rest) q9)
    (kk : ∀ (r : Int64) (u : S) (t : State) (H1 : Heap) (locs1 : List Loc), t.heap = H1 → s.vm.Alike t.vm → post r u → B u t → H.size ≤ H1.size → (∀ q : Nat, q < H.size → ¬ A1 q → H1[q]? = H[q]?) → va_S A0 H0 H1 locs1 → W p l e R s m args below meth c H1 locs1 (cells + mc) (slots + ms) Q (F0 m (pc + 3) ls (.long r :: rest))) : W p l e R s m args below meth c H locs cells slots Q (F0 m pc ls st0) := by
  intro T hT X
  rcases hr T hT X with ⟨v, st₀, t, T', L, h0, X', hL, e1, e2, ⟨⟨r, u, hv, hp, hb⟩, hF⟩, st⟩ | ⟨q, st₀, t, T', L, E, ce, h0, X', hL, e1, e2, ⟨u, hp, hb, hF⟩, hce, hcv, hcl, st⟩
  · cases hv
    obtain ⟨k1, k2, k3⟩ := vx_keep h0 e1 hS hA hf hL hF
    obtain ⟨t2, a1, b1⟩ := kk r u t T'.heap (locs ++ L) e1.symm (by rw [← e2]; exact X'.warmed.alike) hp hb k1 k2 k3 T' rfl X'
    exact ⟨t2, st t2 a1, b1⟩
  · obtain ⟨k1, k2, k3⟩ := vx_keep h0 e1 hS hAX hf hL hF
    obtain ⟨t2, a1, b1⟩ := kx E ce q u t T'.heap (locs ++ L) e1.symm (by rw [← e2]; exact X'.warmed.alike) hp hb k1 k2 k3 (by rw [e1]; exact hce) hcv hcl T' rfl X'
    exact ⟨t2, st.trans a1, b1⟩
theorem vx_callf {S SX : Type} {post : UInt32 → S → Prop} {px : SX → Prop} {B : S → State → Prop} {BX : String → SX → State → Prop} {AX : Nat → Prop} (hr : vx_Run p l e R s m args below meth c H locs cells slots mc ms (F0 m pc ls st0) rest (va_Qf post B A1 a) (vx_X px BX AX) free) (hS : va_S A0 H0 H locs) (hA : ∀ q, q < H.size → A1 q → A0 q) (hf : ∀ q, free q → A0 q) (hAX : ∀ q, q < H.size → AX q → A0 q)
    (kx : ∀ (E : String) (ce : Cell) (q9 : Addr) (u : SX) (t : State) (H1 : Heap) (locs1 : List Loc), t.heap = H1 → s.vm.Alike t.vm → px u → BX E u t → H.size ≤ H1.size → (∀ q : Nat, q < H.size → ¬ AX q → H1[q]? = H[q]?) → va_S A0 H0 H1 locs1 → H1[q9]? = some ce → ce.vm = .none → s.vm.findClass E = some ce.cls → vx_W p l e R s m args below meth c H1 locs1 (cells + mc) (slots + ms) Q (F0 m pc ls rest) q9)
    (kk : ∀ (r : UInt32) (u : S) (t : State) (H1 : Heap) (locs1 : List Loc), t.heap = H1 → s.vm.Alike t.vm → post r u → B u t → H.size ≤ H1.size → (∀ q : Nat, q < H.size → ¬ A1 q → H1[q]? = H[q]?) → va_S A0 H0 H1 locs1 → W p l e R s m args below meth c H1 locs1 (cells + mc) (slots + ms) Q (F0 m (pc + 3) ls (.float r :: rest))) : W p l e R s m args below meth c H locs cells slots Q (F0 m pc ls st0) := by
  intro T hT X
  rcases hr T hT X with ⟨v, st₀, t, T', L, h0, X', hL, e1, e2, ⟨⟨r, u, hv, hp, hb⟩, hF⟩, st⟩ | ⟨q, st₀, t, T', L, E, ce, h0, X', hL, e1, e2, ⟨u, hp, hb, hF⟩, hce, hcv, hcl, st⟩
  · cases hv
    obtain ⟨k1, k2, k3⟩ := vx_keep h0 e1 hS hA hf hL hF
    obtain ⟨t2, a1, b1⟩ := kk r u t T'.heap (locs ++ L) e1.symm (by rw [← e2]; exact X'.warmed.alike) hp hb k1 k2 k3 T' rfl X'
    exact ⟨t2, st t2 a1, b1⟩
  · obtain ⟨k1, k2, k3⟩ := vx_keep h0 e1 hS hAX hf hL hF
    obtain ⟨t2, a1, b1⟩ := kx E ce q u t T'.heap (locs ++ L) e1.symm (by rw [← e2]; exact X'.warmed.alike) hp hb k1 k2 k3 (by rw [e1]; exact hce) hcv hcl T' rfl X'
    exact ⟨t2, st.trans a1, b1⟩
theorem vx_calld {S SX : Type} {post : UInt64 → S → Prop} {px : SX → Prop} {B : S → State → Prop} {BX : String → SX → State → Prop} {AX : Nat → Prop} (hr : vx_Run p l e R s m args below meth c H locs cells slots mc ms (F0 m pc ls st0) rest (va_Qd post B A1 a) (vx_X px BX AX) free) (hS : va_S A0 H0 H locs) (hA : ∀ q, q < H.size → A1 q → A0 q) (hf : ∀ q, free q → A0 q) (hAX : ∀ q, q < H.size → AX q → A0 q)
    (kx : ∀ (E : String) (ce : Cell) (q9 : Addr) (u : SX) (t : State) (H1 : Heap) (locs1 : List Loc), t.heap = H1 → s.vm.Alike t.vm → px u → BX E u t → H.size ≤ H1.size → (∀ q : Nat, q < H.size → ¬ AX q → H1[q]? = H[q]?) → va_S A0 H0 H1 locs1 → H1[q9]? = some ce → ce.vm = .none → s.vm.findClass E = some ce.cls → vx_W p l e R s m args below meth c H1 locs1 (cells + mc) (slots + ms) Q (F0 m pc ls rest) q9)
    (kk : ∀ (r : UInt64) (u : S) (t : State) (H1 : Heap) (locs1 : List Loc), t.heap = H1 → s.vm.Alike t.vm → post r u → B u t → H.size ≤ H1.size → (∀ q : Nat, q < H.size → ¬ A1 q → H1[q]? = H[q]?) → va_S A0 H0 H1 locs1 → W p l e R s m args below meth c H1 locs1 (cells + mc) (slots + ms) Q (F0 m (pc + 3) ls (.double r :: rest))) : W p l e R s m args below meth c H locs cells slots Q (F0 m pc ls st0) := by
  intro T hT X
  rcases hr T hT X with ⟨v, st₀, t, T', L, h0, X', hL, e1, e2, ⟨⟨r, u, hv, hp, hb⟩, hF⟩, st⟩ | ⟨q, st₀, t, T', L, E, ce, h0, X', hL, e1, e2, ⟨u, hp, hb, hF⟩, hce, hcv, hcl, st⟩
  · cases hv
    obtain ⟨k1, k2, k3⟩ := vx_keep h0 e1 hS hA hf hL hF
    obtain ⟨t2, a1, b1⟩ := kk r u t T'.heap (locs ++ L) e1.symm (by rw [← e2]; exact X'.warmed.alike) hp hb k1 k2 k3 T' rfl X'
    exact ⟨t2, st t2 a1, b1⟩
  · obtain ⟨k1, k2, k3⟩ := vx_keep h0 e1 hS hAX hf hL hF
    obtain ⟨t2, a1, b1⟩ := kx E ce q u t T'.heap (locs ++ L) e1.symm (by rw [← e2]; exact X'.warmed.alike) hp hb k1 k2 k3 (by rw [e1]; exact hce) hcv hcl T' rfl X'
    exact ⟨t2, st.trans a1, b1⟩
theorem vx_callv {S SX : Type} {post : S → Prop} {px : SX → Prop} {B : S → State → Prop} {BX : String → SX → State → Prop} {AX : Nat → Prop} (hr : vx_Run p l e R s m args below meth c H locs cells slots mc ms (F0 m pc ls st0) rest (va_Qv post B A1 a) (vx_X px BX AX) free) (hS : va_S A0 H0 H locs) (hA : ∀ q, q < H.size → A1 q → A0 q) (hf : ∀ q, free q → A0 q) (hAX : ∀ q, q < H.size → AX q → A0 q)
    (kx : ∀ (E : String) (ce : Cell) (q9 : Addr) (u : SX) (t : State) (H1 : Heap) (locs1 : List Loc), t.heap = H1 → s.vm.Alike t.vm → px u → BX E u t → H.size ≤ H1.size → (∀ q : Nat, q < H.size → ¬ AX q → H1[q]? = H[q]?) → va_S A0 H0 H1 locs1 → H1[q9]? = some ce → ce.vm = .none → s.vm.findClass E = some ce.cls → vx_W p l e R s m args below meth c H1 locs1 (cells + mc) (slots + ms) Q (F0 m pc ls rest) q9)
    (kk : ∀ (u : S) (t : State) (H1 : Heap) (locs1 : List Loc), t.heap = H1 → s.vm.Alike t.vm → post u → B u t → H.size ≤ H1.size → (∀ q : Nat, q < H.size → ¬ A1 q → H1[q]? = H[q]?) → va_S A0 H0 H1 locs1 → W p l e R s m args below meth c H1 locs1 (cells + mc) (slots + ms) Q (F0 m (pc + 3) ls (rest))) : W p l e R s m args below meth c H locs cells slots Q (F0 m pc ls st0) := by
  intro T hT X
  rcases hr T hT X with ⟨v, st₀, t, T', L, h0, X', hL, e1, e2, ⟨⟨u, hv, hp, hb⟩, hF⟩, st⟩ | ⟨q, st₀, t, T', L, E, ce, h0, X', hL, e1, e2, ⟨u, hp, hb, hF⟩, hce, hcv, hcl, st⟩
  · cases hv
    obtain ⟨k1, k2, k3⟩ := vx_keep h0 e1 hS hA hf hL hF
    obtain ⟨t2, a1, b1⟩ := kk u t T'.heap (locs ++ L) e1.symm (by rw [← e2]; exact X'.warmed.alike) hp hb k1 k2 k3 T' rfl X'
    exact ⟨t2, st t2 a1, b1⟩
  · obtain ⟨k1, k2, k3⟩ := vx_keep h0 e1 hS hAX hf hL hF
    obtain ⟨t2, a1, b1⟩ := kx E ce q u t T'.heap (locs ++ L) e1.symm (by rw [← e2]; exact X'.warmed.alike) hp hb k1 k2 k3 (by rw [e1]; exact hce) hcv hcl T' rfl X'
    exact ⟨t2, st.trans a1, b1⟩
/-- caught by the row x of this method's table; the rows ahead don't take it -/
theorem vx_catch {own name : String} {E : String} {ce : Cell} {q : Addr} (hown : s.vm.findClass own = some m.cls) (pre : List ExceptionTableEntry) (x : ExceptionTableEntry) (suf : List ExceptionTableEntry) (hsplit : c.exceptionTable.toList = pre ++ x :: suf)
    (hpass : ∀ z ∈ pre, covers z pc = false ∨ (z.catchType ≠ 0 ∧ ∃ nm : String, (Cond.classLink own z.catchType nm).before args s = true ∧ va_Nc E nm s)) (hx : covers x pc = true) (h0 : x.catchType ≠ 0)
    (hlink : (Cond.classLink own x.catchType name).before args s = true) (hcast : (Cond.castable E name).before args s = true) (hcell : H[q]? = some ce) (hv : ce.vm = .none) (hcl : s.vm.findClass E = some ce.cls)
    (kk : W p l e R s m args below meth c H locs cells slots Q (F0 m x.handlerPc ls [.ref q])) : vx_W p l e R s m args below meth c H locs cells slots Q (F0 m pc ls rest) q := by
  intro T hT X
  have hpl : e.platform.magicAccessors = ({} : Platform).magicAccessors := by rw [X.admits.platform]
  obtain ⟨c3, c4, hc3, hc4, hasg⟩ := Cond.castable_spec hcast
  cases Option.some.inj (hc3.symm.trans hcl)
  obtain ⟨c5, hc5, hcl5⟩ := Cond.classLink_spec hown hlink e.platform hpl
  cases Option.some.inj (hc4.symm.trans hc5)
  obtain ⟨vm', X', st⟩ := X.thenCaughtThrough q (g := F0 m pc ls rest) rfl (Steps.refl _) (by rw [hT]; exact hcell) (by rw [hv]; rfl) (by obtain ⟨k9, h9, -⟩ := Vm.findClass_spec hcl; exact ⟨k9, h9⟩) pre x suf hsplit
    (fun z hz => by
      rcases hpass z hz with h | ⟨hz0, nm, hl1, hn1⟩
      · exact Or.inl h
      · obtain ⟨c6, hc6, hcl6⟩ := Cond.classLink_spec hown hl1 e.platform hpl
        obtain ⟨a8, b8, h1, h2, h3⟩ := hn1
        cases Option.some.inj (h1.symm.trans hcl)
        cases Option.some.inj (h2.symm.trans hc6)
        exact Or.inr ⟨hz0, _, hcl6, h3⟩) hx (Or.inr ⟨h0, c4, hcl5, hasg⟩)
  obtain ⟨t, a1, b1⟩ := kk (T.setVm vm') hT X'
  exact ⟨t, st.trans a1, b1⟩
end Rows
section Ends
variable {p : Program} {l : Launch} {e : Env} {R : Room} {s : State} {m : MethodId} {args : Array Value} {below : List Frame} {meth : Method} {c : Code} {H : Heap} {locs : List Loc} {cells slots : Nat} {Q : State → Prop}
variable {mc ms : Nat} {free : Addr → Prop} {A0 A1 : Nat → Prop} {H0 : Heap} {a : Array Value} {ls : Array Slot} {st0 rest : List Value}
variable {Qc : Array Value → State → Outcome → State → Prop} {XC : String → State → State → Prop}
/-- what a body that may throw owes at its end -/
def vx_MQ (below : List Frame) (Qc : Array Value → State → Outcome → State → Prop) (XC : String → State → State → Prop) (a : Array Value) (s : State) (mc ms : Nat) (free : Addr → Prop) : State → Prop := fun t =>
  ∃ o, t.status = .running ∧ Ended t below o ∧ vx_Q Qc XC mc ms free a s o t
theorem vx_ret {g : JFrame} {mc ms : Nat} (k : W p l e R s m args below meth c H locs cells slots (MQ below Qc args s mc ms free) g) : W p l e R s m args below meth c H locs cells slots (vx_MQ below Qc XC args s mc ms free) g := by
  intro T hT X
  obtain ⟨t, a1, o, b1, b2, b3, b4⟩ := k T hT X
  exact ⟨t, a1, o, b1, b2, Or.inl ⟨b3, b4⟩⟩
/-- not caught here: it goes on to the caller -/
theorem vx_widen {g : JFrame} {q : Addr} {k n : Nat} (h1 : cells ≤ k) (h2 : slots ≤ n) (kk : vx_W p l e R s m args below meth c H locs k n Q g q) : vx_W p l e R s m args below meth c H locs cells slots Q g q := fun T hT X => kk T hT (stand_widen X h1 h2)
theorem vx_out {pc : Nat} {E : String} {ce : Cell} {q : Addr} {mc ms : Nat} (hout : ∀ x ∈ c.exceptionTable.toList, covers x pc = false) (hlocks : meth.locks = false) (hcell : H[q]? = some ce) (hv : ce.vm = .none) (hcl : s.vm.findClass E = some ce.cls)
    (hx : ∀ t : State, t.heap = H → s.vm.Alike t.vm → XC E s t) (hf : ∀ z ∈ locs, free z.base) (hc : cells ≤ mc) (hs : slots ≤ ms) :
    vx_W p l e R s m args below meth c H locs cells slots (vx_MQ below Qc XC args s mc ms free) (F0 m pc ls rest) q := by
  intro T hT X
  obtain ⟨st1, hrun, hend, hW, hsm⟩ := X.leaveThrown q (g := F0 m pc ls rest) rfl rfl rfl hout hlocks
  have hcell9 : (T.setFrames (.throwing q :: below)).heap[q]? = some ce := by
    show T.heap[q]? = some ce
    rw [hT]; exact hcell
  exact ⟨_, st1, .threw q, hrun, hend, Or.inr ⟨q, rfl, E, ce, locs, hx _ hT hW.alike, hcell9, hv, hcl, hW, hsm.mono hc hs, hf⟩⟩
theorem vx_frame {U : State} {k n : Nat} (h : s.sameButNew ({ U with vm := s.vm } : State) locs k n) : s.heap.size ≤ U.heap.size ∧ ∀ q : Nat, q < s.heap.size → (∀ z ∈ locs, z.base ≠ q) → U.heap[q]? = s.heap[q]? := by
  obtain ⟨-, h2, -, -, -, h6⟩ := h
  refine ⟨h2, fun q hq hz => ?_⟩
  obtain ⟨c9, e1, e2, e3, e4⟩ := h6 q _ (Array.getElem?_eq_getElem hq)
  have hs : c9.slots = (s.heap[q]).slots := Array.ext_getElem? fun i => e4 i fun hm => hz _ hm rfl
  have h9 : c9 = s.heap[q] := by
    rw [hs] at e2
    exact e2
  have e5 : U.heap[q]? = some c9 := e1
  rw [e5, h9, Array.getElem?_eq_getElem hq]
/-- the words of a throw but the four that speak of the heap -/
def vx_no (w : Cond) : Bool := decide (w ≠ .isRef (.static Bundle.tN "UNASSIGNED_STACK" Bundle.steD)) && decide (w ≠ .isRef (.static Bundle.tN "SUPPRESSED_SENTINEL" Bundle.listD)) && decide (w ≠ .laysStatic Bundle.tN "UNASSIGNED_STACK" Bundle.steD) && decide (w ≠ .laysStatic Bundle.tN "SUPPRESSED_SENTINEL" Bundle.listD)
def vx_at0 (own : String) (ic : Nat) (X : String) (names : List String) : List Cond := (Bundle.ownAtoms0 own ic X names).filter vx_no
def vx_atS (own : String) (ic : Nat) (X : String) (names : List String) : List Cond := (Bundle.ownAtoms own ic X names).filter vx_no
/-- a word that the tables alone decide, or a good one -/
def vx_ot (w : Cond) : Bool := w.onTables || goodWord w
theorem vx_ot_at {args a' : Array Value} {s U : State} {w : Cond} (hW : s.WarmedH U.vm) (hvm : s.vm = U.vm) (hg : vx_ot w = true) (h : w.before args s = true) : w.before a' U = true := by
  simp only [vx_ot, Bool.or_eq_true] at hg
  rcases hg with hg | hg
  · exact va_tabs hg hvm h
  · exact word_at hW (good_of_word hg) h
/-- a list's words: the good ones out of the method's own list, the others by premises of their own -/
theorem vx_hat {args : Array Value} {s : State} {L B : List Cond} (h1 : ∀ w ∈ L.filter goodWord, w.before args s = true) (h2 : ∀ w ∈ L.filter (fun w => !goodWord w), w ∈ B) (h3 : ∀ w ∈ B, w.before args s = true) : ∀ w ∈ L, w.before args s = true := by
  intro w hw
  by_cases g : goodWord w = true
  · exact h1 w (List.mem_filter.mpr ⟨hw, g⟩)
  · refine h3 w (h2 w (List.mem_filter.mpr ⟨hw, ?_⟩))
    show (!goodWord w) = true
    cases hgw : goodWord w
    · rfl
    · exact absurd hgw g
theorem vx_c {args : Array Value} {s : State} {w : Cond} {B : List Cond} (h : w.before args s = true) (t : ∀ w ∈ B, w.before args s = true) : ∀ w' ∈ w :: B, w'.before args s = true := fun w' h' => (List.mem_cons.mp h').elim (fun e => by rw [e]; exact h) (t w')
theorem vx_n {args : Array Value} {s : State} : ∀ w ∈ ([] : List Cond), w.before args s = true := fun _ h => nomatch h
theorem vx_own {args : Array Value} {s : State} {L : List Cond} (h1 : ∀ w ∈ L.filter vx_no, w.before args s = true)
    (hU : (Cond.isRef (.static Bundle.tN "UNASSIGNED_STACK" Bundle.steD)).before args s = true) (hN : (Cond.isRef (.static Bundle.tN "SUPPRESSED_SENTINEL" Bundle.listD)).before args s = true)
    (lU : (Cond.laysStatic Bundle.tN "UNASSIGNED_STACK" Bundle.steD).before args s = true) (lN : (Cond.laysStatic Bundle.tN "SUPPRESSED_SENTINEL" Bundle.listD).before args s = true) : ∀ w ∈ L, w.before args s = true := by
  intro w hw
  by_cases e1 : w = .isRef (.static Bundle.tN "UNASSIGNED_STACK" Bundle.steD)
  · rw [e1]; exact hU
  · by_cases e2 : w = .isRef (.static Bundle.tN "SUPPRESSED_SENTINEL" Bundle.listD)
    · rw [e2]; exact hN
    · by_cases e3 : w = .laysStatic Bundle.tN "UNASSIGNED_STACK" Bundle.steD
      · rw [e3]; exact lU
      · by_cases e4 : w = .laysStatic Bundle.tN "SUPPRESSED_SENTINEL" Bundle.listD
        · rw [e4]; exact lN
        · exact h1 w (List.mem_filter.mpr ⟨hw, by unfold vx_no; rw [decide_eq_true e1, decide_eq_true e2, decide_eq_true e3, decide_eq_true e4]; rfl⟩)
/-- where a static field lies, its class's statics cell in H -/
def vx_L (C n d : String) (A : Nat → Prop) (U : State) (H : Heap) : Prop := ∃ (c : ClassId) (k : Class) (i : Nat) (f : Field) (a : Nat) (cell : Cell), U.vm.findClass C = some c ∧ U.fieldFound? C n d = some (c, k, i, f) ∧ f.isStatic = true ∧ k.statics = some a ∧ H[a]? = some cell ∧ cell.vm.isStatics = true ∧ cell.cls = c ∧ f.slot < cell.slots.size ∧ k.staticTypes[f.slot]? = some f.type ∧ ¬ A a
theorem vx_L.moved {C n d : String} {A : Nat → Prop} {u U : State} {H : Heap} (hvm : u.vm.Alike U.vm) (h : vx_L C n d A u H) : vx_L C n d A U H := by
  obtain ⟨c, k, i, f, a, cell, h1, h2, h3, h4, h5, h6, h7, h8, h9, h10⟩ := h
  obtain ⟨k', hi', he⟩ := State.fieldFound?_setVm hvm h2
  exact ⟨c, k', i, f, a, cell, by rw [hvm.findClass]; exact h1, hi', h3, by rw [he]; exact h4, h5, h6, h7, h8, by rw [he]; exact h9, h10⟩
theorem vx_L.kept {C n d : String} {A : Nat → Prop} {U : State} {H H1 : Heap} (h : vx_L C n d A U H) (hq : ∀ a : Nat, a < H.size → ¬ A a → H1[a]? = H[a]?) : vx_L C n d A U H1 := by
  obtain ⟨c, k, i, f, a, cell, h1, h2, h3, h4, h5, h6, h7, h8, h9, h10⟩ := h
  exact ⟨c, k, i, f, a, cell, h1, h2, h3, h4, by rw [hq a (Array.getElem?_eq_some_iff.mp h5).1 h10]; exact h5, h6, h7, h8, h9, h10⟩
theorem vx_L.narrow {C n d : String} {A B : Nat → Prop} {U : State} {H : Heap} (h : vx_L C n d A U H) (hAB : ∀ q, B q → A q) : vx_L C n d B U H := by
  obtain ⟨c, k, i, f, a, cell, h1, h2, h3, h4, h5, h6, h7, h8, h9, h10⟩ := h
  exact ⟨c, k, i, f, a, cell, h1, h2, h3, h4, h5, h6, h7, h8, h9, fun z => h10 (hAB _ z)⟩
theorem vx_L.word {C n d : String} {A : Nat → Prop} {s : State} {args : Array Value} (h : vx_L C n d A s s.heap) : (Cond.laysStatic C n d).before args s = true := by
  obtain ⟨c, k, i, f, a, cell, h1, h2, h3, h4, h5, h6, h7, h8, h9, -⟩ := h
  show (Cond.laysStatic C n d).holds args s none s [] = true
  exact Cond.laysStatic_of h1 h2 h3 h4 h5 h6 h7 h8 h9
/-- .. and what it holds: null or some reference -/
def vx_Zq (C n d : String) (A : Nat → Prop) (U : State) (H : Heap) : Prop := va_Zq C n d A U H ∧ vx_L C n d A U H
theorem vx_Zq.moved {C n d : String} {A : Nat → Prop} {u U : State} {H : Heap} (hvm : u.vm.Alike U.vm) (h : vx_Zq C n d A u H) : vx_Zq C n d A U H := ⟨va_Zq.moved hvm h.1, vx_L.moved hvm h.2⟩
theorem vx_Zq.kept {C n d : String} {A : Nat → Prop} {U : State} {H H1 : Heap} (h : vx_Zq C n d A U H) (hq : ∀ a : Nat, a < H.size → ¬ A a → H1[a]? = H[a]?) : vx_Zq C n d A U H1 := ⟨va_Zq.kept h.1 hq, vx_L.kept h.2 hq⟩
theorem vx_Zq.narrow {C n d : String} {A B : Nat → Prop} {U : State} {H : Heap} (h : vx_Zq C n d A U H) (hAB : ∀ q, B q → A q) : vx_Zq C n d B U H := ⟨va_Zq.narrow h.1 hAB, vx_L.narrow h.2 hAB⟩
theorem vx_Zqof {args : Array Value} {s : State} {C n d : String} {A : Nat → Prop} (hl : (Cond.laysStatic C n d).before args s = true) (hini : (Cond.initialized C).before args s = true) (h : (Cond.isRef (.static C n d)).before args s = true) (hA : ∀ a : Nat, a < s.heap.size → ¬ A a) : vx_Zq C n d A s s.heap := by
  refine ⟨va_Zqof hl hini h hA, ?_⟩
  obtain ⟨c, k, i, f, a, cell, h1, h2, h3, h4, h5, h6, h7, h8, h9⟩ := Cond.laysStatic_spec hl
  exact ⟨c, k, i, f, a, cell, h1, h2, h3, h4, h5, h6, h7, h8, h9, hA a (Array.getElem?_eq_some_iff.mp h5).1⟩
theorem vx_isRef {C n d : String} {v : Value} {A : Nat → Prop} {s : State} {args : Array Value} (h : va_Z C n d v A s s.heap) (hv : v.isRef = true) : (Cond.isRef (.static C n d)).before args s = true := by
  obtain ⟨cf, kf, fi, f, a, cell, h1, h2, h3, h4, h5, h6, h7, -⟩ := h
  have he : (Term.static C n d).eval args s none [] s = some v := by
    simp [Term.eval, State.fieldNamed?, h1, h2, h4, h5, h6, h7]
  simp only [Cond.before, Cond.holds, Cond.value, he]
  cases v <;> simp_all [Value.isRef]
theorem vx_isRefq {C n d : String} {A : Nat → Prop} {s : State} {args : Array Value} (h : va_Zq C n d A s s.heap) : (Cond.isRef (.static C n d)).before args s = true := by
  rcases h with h | ⟨t, h⟩
  · exact vx_isRef h rfl
  · exact vx_isRef h rfl
/-- the same frame, seen from here: as if the method were called anew in this heap -/
theorem vx_rebase {T : State} (X : Stand p l e R s m args below meth c T locs cells slots) {R' : Room} (hf : R'.frames ≤ R.frames) (hl : R'.locals ≤ R.locals) (hc : cells + R'.cells ≤ R.cells) (hs : slots + R'.slots ≤ R.slots) :
    Stand p l e R' ((T.setVm s.vm).setFrames (.invoking m args :: below)) m args below meth c T [] 0 0 := by
  have htop : (T.setVm s.vm).topJava?.isSome := X.here.top
  have hF : ((T.setVm s.vm).setFrames (.invoking m args :: below)).frames = .invoking m args :: below := State.frames_setFrames _ (State.cur_lt_of_top htop)
  obtain ⟨g₀, hg0⟩ := Option.isSome_iff_exists.mp htop
  obtain ⟨r, hr⟩ := State.topJava?_eq_some.mp hg0
  have hl9 : e.platform.stackLimits (T.setVm s.vm).me = e.platform.stackLimits s.me := X.limits
  have hb9 : (T.setVm s.vm).me.stackBytes = s.me.stackBytes := X.bytes
  refine ⟨X.admits, X.cas, X.clock, hF, ?_, X.hears, X.method, X.code, X.here, X.tail, X.warmed, ?_, ?_, ?_⟩
  · have h := X.room
    have hU : ((T.setVm s.vm).setFrames (.invoking m args :: below)).localsInUse = s.localsInUse := by
      rw [State.localsInUse_invoking hF (meth := meth) (c := c) X.method X.code, State.localsInUse_invoking X.frames X.method X.code]
    simp only [State.hasRoom, Bool.and_eq_true, decide_eq_true_eq] at h ⊢
    obtain ⟨⟨⟨⟨h1, h2, h3, h4, h5, h6⟩, h7⟩, h8⟩, h9⟩ := h
    rw [X.frames, List.length_cons] at h2 h3
    have q1 := X.heapSize
    have q2 := X.used
    simp only [hF, hU, List.length_cons, State.stackLimits_setFrames, State.stackBytes_setFrames, hl9, hb9]
    refine ⟨⟨⟨⟨by omega, by omega, by omega, by omega, by omega, h6⟩, ?_⟩, ?_⟩, X.book⟩
    · show T.heap.size + R'.cells ≤ e.platform.maxCells
      omega
    · show T.slotsUsed + R'.slots ≤ e.platform.maxSlots
      omega
  · rw [State.stackLimits_setFrames]; rfl
  · rw [State.stackBytes_setFrames]; rfl
  · refine ⟨?_, Nat.le_refl _, Nat.le_refl _, ?_, ?_, fun a c9 h9 => ⟨c9, h9, rfl, rfl, fun _ _ => rfl⟩⟩
    · obtain ⟨t, ht, -⟩ := State.frames_cons hr
      show T.setVm s.vm = { ((T.setVm s.vm).setFrames (.invoking m args :: below)).setFrames (T.setVm s.vm).frames with heap := T.heap, slotsUsed := T.slotsUsed }
      rw [State.setFrames_setFrames, State.setFrames_self ht]
      rfl
    · show T.slotsUsed = T.slotsUsed + ((T.heap.toList.drop T.heap.size).map (·.slots.size)).sum
      rw [List.drop_eq_nil_of_le (Nat.le_of_eq Array.length_toList)]
      rfl
    · show ((T.heap.toList.drop T.heap.size).map (·.slots.size)).sum ≤ 0
      rw [List.drop_eq_nil_of_le (Nat.le_of_eq Array.length_toList)]
      exact Nat.le_refl _
/-- 'throw new E()': new; dup; invokespecial; athrow -/
theorem vx_throw0 {cc : ByteArray} {pc : Nat} (hexec : p.tables.exec = Jvm.exec) (hb : c.code = cc) (hl : l.stackTraces = false) {own cls : String} {names : List String} {ik ic mc ms : Nat} {A : Nat → Prop}
    (hown : s.vm.findClass own = some m.cls) (hcls : Bundle.fit cls = true) (hnames : ∀ n ∈ names, Bundle.fit n = true)
    (hk : (Cond.classLink own ik cls).before args s = true) (hini : (Cond.initialized cls).before args s = true) (hat : ∀ w ∈ vx_at0 own ic cls names, w.before args s = true)
    (hgood : ∀ w ∈ Cond.classLink own ik cls :: Cond.initialized cls :: vx_at0 own ic cls names, vx_ot w = true)
    (hU : vx_Zq Bundle.tN "UNASSIGNED_STACK" Bundle.steD A s s.heap) (hN : vx_Zq Bundle.tN "SUPPRESSED_SENTINEL" Bundle.listD A s s.heap) (hS : va_S A s.heap H locs) (hsize : ls.size = c.maxLocals)
    (d0 : decode cc pc = .ok (.new ik, 3)) (d3 : decode cc (pc + 3) = .ok (.dup, 1)) (d4 : decode cc (pc + 4) = .ok (.invokespecial ic, 3)) (d7 : decode cc (pc + 7) = .ok (.athrow, 1))
    (hout : ∀ x ∈ c.exceptionTable.toList, covers x (pc + 7) = false)
    (hRframes : names.length + 3 < R.frames) (hRlocals : (rest.map fun v => v.category).sum + (13 * (names.length + 1) + 42) ≤ R.locals) (hRcells : cells + 1 ≤ R.cells) (hRslots : slots + 6 ≤ R.slots) (hlocks : meth.locks = false)
    (hx : ∀ t : State, s.vm.Alike t.vm → H.size ≤ t.heap.size → (∀ q : Nat, q < H.size → t.heap[q]? = H[q]?) → XC cls s t)
    (hf : ∀ z ∈ locs, free z.base) (hc : cells + 1 ≤ mc) (hs : slots + 6 ≤ ms) :
    W p l e R s m args below meth c H locs cells slots (vx_MQ below Qc XC args s mc ms free) (F0 m pc ls rest) := by
  intro T hT X
  have htr : e.platform.stackTraces = false := (show e.platform.stackTraces = l.stackTraces by rw [X.admits.platform]).trans hl
  have Y := vx_rebase X (R' := { frames := R.frames, locals := R.locals, cells := 1, slots := 6 }) (Nat.le_refl _) (Nat.le_refl _) hRcells hRslots
  obtain ⟨s', hA⟩ : ∃ z, z = (T.setVm s.vm).setFrames (.invoking m args :: below) := ⟨_, rfl⟩
  rw [← hA] at Y
  have hvm : s'.vm = s.vm := by rw [hA]; rfl
  have hhp : s'.heap = H := by rw [hA]; exact hT
  have hW0 : s.WarmedH s'.vm := by rw [hvm]; exact State.WarmedH.refl s
  have hat' : ∀ w ∈ vx_at0 own ic cls names, w.before args s' = true := fun w hw => vx_ot_at hW0 hvm.symm (hgood w (List.mem_cons_of_mem _ (List.mem_cons_of_mem _ hw))) (hat w hw)
  have hk' : (Cond.classLink own ik cls).before args s' = true := vx_ot_at hW0 hvm.symm (hgood _ List.mem_cons_self) hk
  have hini' : (Cond.initialized cls).before args s' = true := vx_ot_at hW0 hvm.symm (hgood _ (List.mem_cons_of_mem _ List.mem_cons_self)) hini
  have hU' : vx_Zq Bundle.tN "UNASSIGNED_STACK" Bundle.steD A s' s'.heap := by rw [hhp]; exact vx_Zq.moved hW0.alike (hU.kept hS.2.1)
  have hN' : vx_Zq Bundle.tN "SUPPRESSED_SENTINEL" Bundle.listD A s' s'.heap := by rw [hhp]; exact vx_Zq.moved hW0.alike (hN.kept hS.2.1)
  have h : ∀ w ∈ Bundle.ownAtoms0 own ic cls names, w.before args s' = true := vx_own hat' (vx_isRefq hU'.1) (vx_isRefq hN'.1) hU'.2.word hN'.2.word
  have hown' : s'.vm.findClass own = some m.cls := by rw [hvm]; exact hown
  have hins : (Cond.instantiable cls 6).before args s' = true := h _ (by simp [Bundle.ownAtoms0])
  obtain ⟨vm₁, cX, kX, hfX, hkX, -, -, X₁, st1⟩ := Y.newCold hexec (own := own) (C := cls) (index := ik) (n := 6) hown' hk' hins hini'
    (g := F0 m pc ls rest) rfl (by rw [hb]; exact d0) (Nat.le_refl _) (Nat.le_refl _)
  generalize hT1 : (T.setVm vm₁).pushCell { cls := cX, slots := kX.instanceTypes.map defaultValue, vm := .none } = T1 at X₁ st1
  have hcat : (Value.ref T.heap.size).category = 1 := rfl
  have hcellA : T1.heap[T.heap.size]? = some (freshCell cX kX) := by rw [← hT1]; exact State.heap_pushCell_size _ _
  have d3' : decode c.code (pc + 3) = .ok (.dup, 1) := by rw [hb]; exact d3
  obtain ⟨U, hsteps, hrun, hend, hW, hsame, ce, hce, hO⟩ := X₁.ctorThrow0 hexec htr (own := own) (cls := cls) (names := names) (ic := ic) hown' hcls hnames h (fun x hx => nomatch hx) hfX hkX hcellA (by rw [hhp, hT]; exact Nat.le_refl _)
    (g := { method := m, pc := pc + 4, locals := ls, stack := .ref T.heap.size :: .ref T.heap.size :: rest, locked := none }) rfl hsize rfl rfl (rest := rest) rfl
    (by rw [hb]; exact d4) (by rw [hb]; exact d7) hout hRframes (by simp only [List.map_cons, List.sum_cons, hcat]; omega) hlocks
  obtain ⟨f1, f2⟩ := vx_frame hsame
  rw [hhp] at f1 f2
  have hWs : s.WarmedH U.vm := State.WarmedH.trans hW0 hW
  have hcl : s.vm.findClass cls = some ce.cls := by
    have h9 := hO.cls
    rw [hvm] at h9
    exact h9
  have hall : s.sameButNew ({ U with vm := s.vm } : State) locs mc ms := by
    subst hA
    obtain ⟨e1, e2⟩ := hsame
    rw [State.setFrames_setFrames] at e1
    have h2 : (T.setVm s.vm).sameButNew ({ U with vm := s.vm } : State) [] (0 + 1) (0 + 6) := ⟨e1, e2⟩
    have h3 := X.same.trans h2
    rw [List.append_nil] at h3
    exact h3.mono hc hs
  refine ⟨U, ?_, .threw T.heap.size, hrun, hend, Or.inr ⟨T.heap.size, rfl, cls, ce, locs, hx U hWs.alike f1 (fun q hq => f2 q hq (fun z hz => nomatch hz)), hce, hO.vm, hcl, hWs, hall, hf⟩⟩
  refine st1 _ ?_
  show Steps p.tables e below (T1.setTop { method := m, pc := pc + 3, locals := ls, stack := .ref T.heap.size :: rest, locked := none }) _
  jvm_step X₁.here [X₁.here.top, hexec, d3', Value.category]
  exact hsteps
/-- 'throw new E("text")': new; dup; ldc; invokespecial; athrow -/
theorem vx_throwS {cc : ByteArray} {pc : Nat} (hexec : p.tables.exec = Jvm.exec) (hb : c.code = cc) (hl : l.stackTraces = false) {own cls text : String} {names : List String} {ik is ic mc ms sa : Nat} {A : Nat → Prop}
    (hown : s.vm.findClass own = some m.cls) (hcls : Bundle.fit cls = true) (hnames : ∀ n ∈ names, Bundle.fit n = true)
    (hk : (Cond.classLink own ik cls).before args s = true) (hini : (Cond.initialized cls).before args s = true) (hstr : vk_R own is text sa s) (hat : ∀ w ∈ vx_atS own ic cls names, w.before args s = true)
    (hgood : ∀ w ∈ Cond.classLink own ik cls :: Cond.initialized cls :: vx_atS own ic cls names, vx_ot w = true)
    (hU : vx_Zq Bundle.tN "UNASSIGNED_STACK" Bundle.steD A s s.heap) (hN : vx_Zq Bundle.tN "SUPPRESSED_SENTINEL" Bundle.listD A s s.heap) (hS : va_S A s.heap H locs) (hsize : ls.size = c.maxLocals)
    (d0 : decode cc pc = .ok (.new ik, 3)) (d3 : decode cc (pc + 3) = .ok (.dup, 1)) (d4 : decode cc (pc + 4) = .ok (.ldc is, 2)) (d6 : decode cc (pc + 6) = .ok (.invokespecial ic, 3)) (d9 : decode cc (pc + 9) = .ok (.athrow, 1))
    (hout : ∀ x ∈ c.exceptionTable.toList, covers x (pc + 9) = false)
    (hRframes : names.length + 3 < R.frames) (hRlocals : (rest.map fun v => v.category).sum + (13 * (names.length + 1) + 43) ≤ R.locals) (hRcells : cells + 1 ≤ R.cells) (hRslots : slots + 6 ≤ R.slots) (hlocks : meth.locks = false)
    (hx : ∀ t : State, s.vm.Alike t.vm → H.size ≤ t.heap.size → (∀ q : Nat, q < H.size → t.heap[q]? = H[q]?) → XC cls s t)
    (hf : ∀ z ∈ locs, free z.base) (hc : cells + 1 ≤ mc) (hs : slots + 6 ≤ ms) :
    W p l e R s m args below meth c H locs cells slots (vx_MQ below Qc XC args s mc ms free) (F0 m pc ls rest) := by
  intro T hT X
  have htr : e.platform.stackTraces = false := (show e.platform.stackTraces = l.stackTraces by rw [X.admits.platform]).trans hl
  have Y := vx_rebase X (R' := { frames := R.frames, locals := R.locals, cells := 1, slots := 6 }) (Nat.le_refl _) (Nat.le_refl _) hRcells hRslots
  obtain ⟨s', hA⟩ : ∃ z, z = (T.setVm s.vm).setFrames (.invoking m args :: below) := ⟨_, rfl⟩
  rw [← hA] at Y
  have hvm : s'.vm = s.vm := by rw [hA]; rfl
  have hhp : s'.heap = H := by rw [hA]; exact hT
  have hW0 : s.WarmedH s'.vm := by rw [hvm]; exact State.WarmedH.refl s
  have hat' : ∀ w ∈ vx_atS own ic cls names, w.before args s' = true := fun w hw => vx_ot_at hW0 hvm.symm (hgood w (List.mem_cons_of_mem _ (List.mem_cons_of_mem _ hw))) (hat w hw)
  have hk' : (Cond.classLink own ik cls).before args s' = true := vx_ot_at hW0 hvm.symm (hgood _ List.mem_cons_self) hk
  have hini' : (Cond.initialized cls).before args s' = true := vx_ot_at hW0 hvm.symm (hgood _ (List.mem_cons_of_mem _ List.mem_cons_self)) hini
  have hU' : vx_Zq Bundle.tN "UNASSIGNED_STACK" Bundle.steD A s' s'.heap := by rw [hhp]; exact vx_Zq.moved hW0.alike (hU.kept hS.2.1)
  have hN' : vx_Zq Bundle.tN "SUPPRESSED_SENTINEL" Bundle.listD A s' s'.heap := by rw [hhp]; exact vx_Zq.moved hW0.alike (hN.kept hS.2.1)
  have h : ∀ w ∈ Bundle.ownAtoms own ic cls names, w.before args s' = true := vx_own hat' (vx_isRefq hU'.1) (vx_isRefq hN'.1) hU'.2.word hN'.2.word
  have hown' : s'.vm.findClass own = some m.cls := by rw [hvm]; exact hown
  have hins : (Cond.instantiable cls 6).before args s' = true := h _ (by simp [Bundle.ownAtoms])
  obtain ⟨vm₁, cX, kX, hfX, hkX, -, -, X₁, st1⟩ := Y.newCold hexec (own := own) (C := cls) (index := ik) (n := 6) hown' hk' hins hini'
    (g := F0 m pc ls rest) rfl (by rw [hb]; exact d0) (Nat.le_refl _) (Nat.le_refl _)
  generalize hT1 : (T.setVm vm₁).pushCell { cls := cX, slots := kX.instanceTypes.map defaultValue, vm := .none } = T1 at X₁ st1
  have hcat : (Value.ref T.heap.size).category = 1 := rfl
  have hcellA : T1.heap[T.heap.size]? = some (freshCell cX kX) := by rw [← hT1]; exact State.heap_pushCell_size _ _
  have d3' : decode c.code (pc + 3) = .ok (.dup, 1) := by rw [hb]; exact d3
  have d4' : decode c.code (pc + 4) = .ok (.ldc is, 2) := by rw [hb]; exact d4
  have hstr' : vk_R own is text sa s' := vk_R.warm hW0 hstr
  obtain ⟨U, hsteps, hrun, hend, hW, hsame, ce, hce, hO⟩ := X₁.ctorThrowS hexec htr (own := own) (cls := cls) (names := names) (ic := ic) hown' hcls hnames h (fun x hx => nomatch hx) hfX hkX hcellA (by rw [hhp, hT]; exact Nat.le_refl _) (msg := .ref sa) rfl
    (g := { method := m, pc := pc + 6, locals := ls, stack := .ref sa :: .ref T.heap.size :: .ref T.heap.size :: rest, locked := none }) rfl hsize rfl rfl (rest := rest) rfl
    (by rw [hb]; exact d6) (by rw [hb]; exact d9) hout hRframes (by simp only [List.map_cons, List.sum_cons, hcat]; omega) hlocks
  obtain ⟨f1, f2⟩ := vx_frame hsame
  rw [hhp] at f1 f2
  have hWs : s.WarmedH U.vm := State.WarmedH.trans hW0 hW
  have hcl : s.vm.findClass cls = some ce.cls := by
    have h9 := hO.cls
    rw [hvm] at h9
    exact h9
  have hall : s.sameButNew ({ U with vm := s.vm } : State) locs mc ms := by
    subst hA
    obtain ⟨e1, e2⟩ := hsame
    rw [State.setFrames_setFrames] at e1
    have h2 : (T.setVm s.vm).sameButNew ({ U with vm := s.vm } : State) [] (0 + 1) (0 + 6) := ⟨e1, e2⟩
    have h3 := X.same.trans h2
    rw [List.append_nil] at h3
    exact h3.mono hc hs
  refine ⟨U, ?_, .threw T.heap.size, hrun, hend, Or.inr ⟨T.heap.size, rfl, cls, ce, locs, hx U hWs.alike f1 (fun q hq => f2 q hq (fun z hz => nomatch hz)), hce, hO.vm, hcl, hWs, hall, hf⟩⟩
  refine st1 _ ?_
  show Steps p.tables e below (T1.setTop { method := m, pc := pc + 3, locals := ls, stack := .ref T.heap.size :: rest, locked := none }) _
  jvm_step X₁.here [X₁.here.top, hexec, d3', Value.category]
  exact X₁.ldcString hexec (own := own) (text := text) (index := is) (a := sa) hown' hstr'.1 hstr'.2
    (g := { method := m, pc := pc + 4, locals := ls, stack := .ref T.heap.size :: .ref T.heap.size :: rest, locked := none }) rfl d4' _ hsteps
/-- 'throw new E("text")', the text by a wide index -/
theorem vx_throwSW {cc : ByteArray} {pc : Nat} (hexec : p.tables.exec = Jvm.exec) (hb : c.code = cc) (hl : l.stackTraces = false) {own cls text : String} {names : List String} {ik is ic mc ms sa : Nat} {A : Nat → Prop}
    (hown : s.vm.findClass own = some m.cls) (hcls : Bundle.fit cls = true) (hnames : ∀ n ∈ names, Bundle.fit n = true)
    (hk : (Cond.classLink own ik cls).before args s = true) (hini : (Cond.initialized cls).before args s = true) (hstr : vk_R own is text sa s) (hat : ∀ w ∈ vx_atS own ic cls names, w.before args s = true)
    (hgood : ∀ w ∈ Cond.classLink own ik cls :: Cond.initialized cls :: vx_atS own ic cls names, vx_ot w = true)
    (hU : vx_Zq Bundle.tN "UNASSIGNED_STACK" Bundle.steD A s s.heap) (hN : vx_Zq Bundle.tN "SUPPRESSED_SENTINEL" Bundle.listD A s s.heap) (hS : va_S A s.heap H locs) (hsize : ls.size = c.maxLocals)
    (d0 : decode cc pc = .ok (.new ik, 3)) (d3 : decode cc (pc + 3) = .ok (.dup, 1)) (d4 : decode cc (pc + 4) = .ok (.ldc_w is, 3)) (d7 : decode cc (pc + 7) = .ok (.invokespecial ic, 3)) (d10 : decode cc (pc + 10) = .ok (.athrow, 1))
    (hout : ∀ x ∈ c.exceptionTable.toList, covers x (pc + 10) = false)
    (hRframes : names.length + 3 < R.frames) (hRlocals : (rest.map fun v => v.category).sum + (13 * (names.length + 1) + 43) ≤ R.locals) (hRcells : cells + 1 ≤ R.cells) (hRslots : slots + 6 ≤ R.slots) (hlocks : meth.locks = false)
    (hx : ∀ t : State, s.vm.Alike t.vm → H.size ≤ t.heap.size → (∀ q : Nat, q < H.size → t.heap[q]? = H[q]?) → XC cls s t)
    (hf : ∀ z ∈ locs, free z.base) (hc : cells + 1 ≤ mc) (hs : slots + 6 ≤ ms) :
    W p l e R s m args below meth c H locs cells slots (vx_MQ below Qc XC args s mc ms free) (F0 m pc ls rest) := by
  intro T hT X
  have htr : e.platform.stackTraces = false := (show e.platform.stackTraces = l.stackTraces by rw [X.admits.platform]).trans hl
  have Y := vx_rebase X (R' := { frames := R.frames, locals := R.locals, cells := 1, slots := 6 }) (Nat.le_refl _) (Nat.le_refl _) hRcells hRslots
  obtain ⟨s', hA⟩ : ∃ z, z = (T.setVm s.vm).setFrames (.invoking m args :: below) := ⟨_, rfl⟩
  rw [← hA] at Y
  have hvm : s'.vm = s.vm := by rw [hA]; rfl
  have hhp : s'.heap = H := by rw [hA]; exact hT
  have hW0 : s.WarmedH s'.vm := by rw [hvm]; exact State.WarmedH.refl s
  have hat' : ∀ w ∈ vx_atS own ic cls names, w.before args s' = true := fun w hw => vx_ot_at hW0 hvm.symm (hgood w (List.mem_cons_of_mem _ (List.mem_cons_of_mem _ hw))) (hat w hw)
  have hk' : (Cond.classLink own ik cls).before args s' = true := vx_ot_at hW0 hvm.symm (hgood _ List.mem_cons_self) hk
  have hini' : (Cond.initialized cls).before args s' = true := vx_ot_at hW0 hvm.symm (hgood _ (List.mem_cons_of_mem _ List.mem_cons_self)) hini
  have hU' : vx_Zq Bundle.tN "UNASSIGNED_STACK" Bundle.steD A s' s'.heap := by rw [hhp]; exact vx_Zq.moved hW0.alike (hU.kept hS.2.1)
  have hN' : vx_Zq Bundle.tN "SUPPRESSED_SENTINEL" Bundle.listD A s' s'.heap := by rw [hhp]; exact vx_Zq.moved hW0.alike (hN.kept hS.2.1)
  have h : ∀ w ∈ Bundle.ownAtoms own ic cls names, w.before args s' = true := vx_own hat' (vx_isRefq hU'.1) (vx_isRefq hN'.1) hU'.2.word hN'.2.word
  have hown' : s'.vm.findClass own = some m.cls := by rw [hvm]; exact hown
  have hins : (Cond.instantiable cls 6).before args s' = true := h _ (by simp [Bundle.ownAtoms])
  obtain ⟨vm₁, cX, kX, hfX, hkX, -, -, X₁, st1⟩ := Y.newCold hexec (own := own) (C := cls) (index := ik) (n := 6) hown' hk' hins hini'
    (g := F0 m pc ls rest) rfl (by rw [hb]; exact d0) (Nat.le_refl _) (Nat.le_refl _)
  generalize hT1 : (T.setVm vm₁).pushCell { cls := cX, slots := kX.instanceTypes.map defaultValue, vm := .none } = T1 at X₁ st1
  have hcat : (Value.ref T.heap.size).category = 1 := rfl
  have hcellA : T1.heap[T.heap.size]? = some (freshCell cX kX) := by rw [← hT1]; exact State.heap_pushCell_size _ _
  have d3' : decode c.code (pc + 3) = .ok (.dup, 1) := by rw [hb]; exact d3
  have d4' : decode c.code (pc + 4) = .ok (.ldc_w is, 3) := by rw [hb]; exact d4
  have hstr' : vk_R own is text sa s' := vk_R.warm hW0 hstr
  obtain ⟨U, hsteps, hrun, hend, hW, hsame, ce, hce, hO⟩ := X₁.ctorThrowS hexec htr (own := own) (cls := cls) (names := names) (ic := ic) hown' hcls hnames h (fun x hx => nomatch hx) hfX hkX hcellA (by rw [hhp, hT]; exact Nat.le_refl _) (msg := .ref sa) rfl
    (g := { method := m, pc := pc + 7, locals := ls, stack := .ref sa :: .ref T.heap.size :: .ref T.heap.size :: rest, locked := none }) rfl hsize rfl rfl (rest := rest) rfl
    (by rw [hb]; exact d7) (by rw [hb]; exact d10) hout hRframes (by simp only [List.map_cons, List.sum_cons, hcat]; omega) hlocks
  obtain ⟨f1, f2⟩ := vx_frame hsame
  rw [hhp] at f1 f2
  have hWs : s.WarmedH U.vm := State.WarmedH.trans hW0 hW
  have hcl : s.vm.findClass cls = some ce.cls := by
    have h9 := hO.cls
    rw [hvm] at h9
    exact h9
  have hall : s.sameButNew ({ U with vm := s.vm } : State) locs mc ms := by
    subst hA
    obtain ⟨e1, e2⟩ := hsame
    rw [State.setFrames_setFrames] at e1
    have h2 : (T.setVm s.vm).sameButNew ({ U with vm := s.vm } : State) [] (0 + 1) (0 + 6) := ⟨e1, e2⟩
    have h3 := X.same.trans h2
    rw [List.append_nil] at h3
    exact h3.mono hc hs
  refine ⟨U, ?_, .threw T.heap.size, hrun, hend, Or.inr ⟨T.heap.size, rfl, cls, ce, locs, hx U hWs.alike f1 (fun q hq => f2 q hq (fun z hz => nomatch hz)), hce, hO.vm, hcl, hWs, hall, hf⟩⟩
  refine st1 _ ?_
  show Steps p.tables e below (T1.setTop { method := m, pc := pc + 3, locals := ls, stack := .ref T.heap.size :: rest, locked := none }) _
  jvm_step X₁.here [X₁.here.top, hexec, d3', Value.category]
  exact X₁.ldcStringW hexec (own := own) (text := text) (index := is) (a := sa) hown' hstr'.1 hstr'.2
    (g := { method := m, pc := pc + 4, locals := ls, stack := .ref T.heap.size :: .ref T.heap.size :: rest, locked := none }) rfl d4' _ hsteps
end Ends
section Bodies
variable {l : Launch}
theorem vx_ofW {y : MethodName} {ws ws' : List Cond} {rm : Room} {Pc : Array Value → State → Prop} {Qc : Array Value → State → Outcome → State → Prop} {XC : String → State → State → Prop} {mc ms : Nat} {free : Addr → Prop} {cc : ByteArray} {maxL : Nat} {ret : Option FieldType}
    (hy : plainName y.cls = true) (hw : ws = Cond.code y cc maxL ret :: ws')
    (body : ∀ p e s m args below meth c s₁, BodyLoose p l y (headSpec ws rm) cc maxL ret e s m args below meth c s₁ → c.maxLocals = maxL → (∀ x ∈ c.exceptionTable.toList, False) → Pc args s →
      W p l e (headSpec ws rm).room s m args below meth c s.heap [] 0 0 (vx_MQ below Qc XC args s mc ms free) (entryFrame m args maxL)) : vx_Met l y ws rm Pc Qc XC mc ms free := by
  refine MetFree.of_bodyS (code := cc) (maxLocals := maxL) (ret := ret) hy ?_ ?_
  · intro args s m h hn
    obtain ⟨meth, c, h1, h2, h3, h4, h5, h6, -, -⟩ := Cond.code_spec hn (atoms_spec (ws := ws) h _ (by rw [hw]; exact List.mem_cons_self))
    exact ⟨meth, c, h1, h2, h3, h4, h5, h6⟩
  · intro p e s m args below meth c s₁ B hml hP _
    have hh0 : s₁.heap = s.heap := by rw [B.state]; rfl
    have ht : ∀ x ∈ c.exceptionTable.toList, False := by
      obtain ⟨meth9, c9, h1, h2, -, -, -, -, h7, -⟩ := Cond.code_spec B.named (atoms_spec (ws := ws) B.pre _ (by rw [hw]; exact List.mem_cons_self))
      cases Option.some.inj (h1.symm.trans B.method)
      cases Option.some.inj (h2.symm.trans (Stand.of_body B).code)
      intro x hx
      rw [Array.isEmpty_iff.mp h7] at hx
      cases hx
    obtain ⟨t, a1, o, b1, b2, b3⟩ := body p e s m args below meth c s₁ B hml ht hP s₁ hh0 (Stand.of_body B)
    exact ⟨t, o, a1, b1, b2, b3⟩
/-- the table of a body with handlers -/
theorem vx_table {p : Program} {x y : MethodName} {S : Spec} {cc bytes : ByteArray} {maxL maxL' : Nat} {ret ret' : Option FieldType} {e : Env} {s s₁ : State} {m : MethodId} {args : Array Value} {below : List Frame} {meth : Method} {c : Code} {hh : List (Nat × Nat × Nat × Nat)}
    (B : BodyLoose p l y S cc maxL ret e s m args below meth c s₁) (h : (Cond.codeWith y bytes maxL' ret' hh).before args s = true) : c.exceptionTable.toList = tableOf hh := by
  obtain ⟨m9, meth9, c9, hn9, h1, h2, -, -, h6, -⟩ := Cond.codeWith_spec h
  cases Option.some.inj (hn9.symm.trans B.named)
  cases Option.some.inj (h1.symm.trans B.method)
  cases Option.some.inj (h2.symm.trans (Stand.of_body B).code)
  rw [← h6, table_eq]
end Bodies
end VXA
/-! ===== END ===== -/
/-! ===== BEGIN a static call of a method with an exception table ===== -/
section VXS
variable {p : Program} {l : Launch} {e : Env} {R : Room} {s : State} {m : MethodId} {args : Array Value} {below : List Frame} {meth : Method} {c : Code} {T : State} {H : Heap} {locs : List Loc} {cells slots : Nat}
abbrev vx_CSW (R : Room) (s : State) (args : Array Value) (own : String) (index : Nat) (y : MethodName) (bytes : ByteArray) (maxL : Nat) (ret : Option FieldType) (hh : List (Nat × Nat × Nat × Nat)) (ws : List Cond) (rm : Room) (mc ms n : Nat) : Prop :=
  (rm.cells = mc ∧ rm.slots = ms ∧ rm.frames + 1 ≤ R.frames ∧ 8 + (maxL + 11) + rm.locals ≤ R.locals ∧ (∀ w ∈ ws, ∀ (a' : Array Value) (U : State), s.WarmedH U.vm → w.before a' U = true) ∧ Cond.codeWith y bytes maxL ret hh ∈ ws) ∧
  (Cond.codeWith y bytes maxL ret hh).before args s = true ∧ (Cond.initialized y.cls).before args s = true ∧ (y.cls ≠ "java/lang/invoke/MethodHandle" ∧ y.cls ≠ "java/lang/invoke/VarHandle") ∧
  (∀ sig, parseMethodDescriptor y.desc = some sig → n = sig.parameters.length) ∧ (Cond.methodLink own index y).before args s = true ∧ (Cond.static y).before args s = true
theorem vx_cwSW {own : String} {index maxL mc ms : Nat} {y : MethodName} {bytes : ByteArray} {ret : Option FieldType} {hh : List (Nat × Nat × Nat × Nat)} {Ts ws ws' : List Cond} {rm : Room} (n : Nat) (ht : ∀ w ∈ Ts, w.before args s = true) (hT : GoodIn Ts (va_wsS own index y ws)) (hw : ws = Cond.codeWith y bytes maxL ret hh :: ws') (hrc : rm.cells = mc) (hrs : rm.slots = ms)
    (hd : y.cls ≠ "java/lang/invoke/MethodHandle" ∧ y.cls ≠ "java/lang/invoke/VarHandle" ∧ (parseMethodDescriptor y.desc).map (fun d => d.parameters.length) = some n) (hR : rm.frames + 1 ≤ R.frames ∧ 8 + (maxL + 11) + rm.locals ≤ R.locals) :
    vx_CSW R s args own index y bytes maxL ret hh ws rm mc ms n := by
  have ok : ∀ w ∈ va_wsS own index y ws, w.before args s = true := fun w h => ht w (hT w h).1
  have hG : GoodIn Ts ws := fun w h => hT w (by unfold va_wsS; exact List.mem_append_right _ h)
  have hc : Cond.codeWith y bytes maxL ret hh ∈ ws := by rw [hw]; exact List.mem_cons_self
  refine ⟨⟨hrc, hrs, hR.1, hR.2, pay_in ht hG, hc⟩, ht _ (hG _ hc).1, ok _ (by simp [va_wsS]), ⟨hd.1, hd.2.1⟩, fun sig h => ?_, ok _ (by simp [va_wsS]), ok _ (by simp [va_wsS])⟩
  have h2 := hd.2.2
  rw [h] at h2
  exact (Option.some.inj h2).symm
theorem vx_callSW (X : Stand p l e R s m args below meth c T locs cells slots) (hexec : p.tables.exec = Jvm.exec) {own : String} {index : Nat} {y : MethodName} {bytes : ByteArray} {maxL : Nat} {ret : Option FieldType} {hh : List (Nat × Nat × Nat × Nat)}
    (hown : s.vm.findClass own = some m.cls) (hlink : (Cond.methodLink own index y).before args s = true) (hstat : (Cond.static y).before args s = true) (hinit : (Cond.initialized y.cls).before args s = true)
    (hcode : (Cond.codeWith y bytes maxL ret hh).before args s = true) (hy : y.cls ≠ "java/lang/invoke/MethodHandle" ∧ y.cls ≠ "java/lang/invoke/VarHandle")
    {W9 : Nat} {Pre : Pt → Array Value → Prop} {Post : Pt → Array Value → Option Value → Pt → Prop} (hK : Back l R p e below s args y 3 W9 Pre Post)
    {g : JFrame} (hg : g.method = m) (hsize : g.locals.size = c.maxLocals) {argsL rest : List Value} (hlen : ∀ sig, parseMethodDescriptor y.desc = some sig → argsL.length = sig.parameters.length)
    (hstack : g.stack = argsL.reverse ++ rest) (hW : 2 * g.monitorRoom + (rest.map fun v => v.category).sum ≤ W9) (hdg : decode c.code g.pc = .ok (.invokestatic index, 3))
    (hpre : ∀ vm₁, s.WarmedH vm₁ → Pre ⟨T.setVm vm₁, locs, cells, slots⟩ argsL.toArray) :
    ∃ (v : Option Value) (vm₁ : Vm) (B : Pt), s.WarmedH vm₁ ∧ Stand p l e R s m args below meth c B.U B.locs B.cells B.slots ∧ Post ⟨T.setVm vm₁, locs, cells, slots⟩ argsL.toArray v B ∧
      ∀ target, Steps p.tables e below (B.U.setTop { g with pc := g.pc + 3, stack := v.toList ++ rest }) target → Steps p.tables e below (T.setTop g) target := by
  obtain ⟨mk, methM, cM, hnamed, hmethM, -, -, -, -, -, -, hsigM⟩ := Cond.codeWith_spec hcode
  have hstatic : methM.isStatic = true := Cond.static_spec hnamed hmethM hstat
  obtain ⟨kP, hkP, -⟩ := className_of_methodNamed hnamed
  have hinitP : kP.init = .initialized := Cond.initialized_spec (findClass_of_methodNamed hnamed) hkP hinit
  obtain ⟨vm₁, X₁, hstep₁⟩ := X.invokestatic hexec hown hlink hnamed hmethM hstatic hkP hinitP hy (g := g) hg (argsL := argsL) (rest := rest) (hlen _ hsigM) hstack hdg
  obtain ⟨v, B, X', hpost, hsteps⟩ := hK m meth c ⟨T.setVm vm₁, locs, cells, slots⟩ { g with stack := rest } (.invokestatic index) mk argsL.toArray X₁ hg hsize hdg hW (X₁.named hnamed) (hpre vm₁ X₁.warmed)
  exact ⟨v, vm₁, B, X₁.warmed, X', hpost, fun target h => hstep₁ _ fun acts => by rw [doInvoke_state]; exact hsteps.trans h⟩
theorem vx_runSW {y : MethodName} {bytes cc : ByteArray} {maxL nL mc ms n index : Nat} {ret : Option FieldType} {hh : List (Nat × Nat × Nat × Nat)} {ws : List Cond} {rm : Room} {Pc : Array Value → State → Prop} {Qc : Array Value → State → Outcome → State → Prop} {free : Addr → Prop} {Ts : List Cond} {own : String} {As rest : List Value} {g : JFrame}
    (S : CallFix p m c cc nL s args Ts own) (hM : Met l y ws rm Pc Qc mc ms free) (cw : vx_CSW R s args own index y bytes maxL ret hh ws rm mc ms n) (hp : PreS s H Pc As)
    (hg : g.method = m) (hn : As.length = n) (hsize : g.locals.size = nL) (hstack : g.stack = As.reverse ++ rest) (hW : 2 * g.monitorRoom + (rest.map fun v => v.category).sum ≤ 8) (hdg : decode cc g.pc = .ok (.invokestatic index, 3)) (hf : cells + mc ≤ R.cells ∧ slots + ms ≤ R.slots) :
    va_Run p l e R s m args below meth c H locs cells slots mc ms g rest (Qc As.toArray) (free) := by
  obtain ⟨⟨hrc, hrs, hfr, hlo, hws, hcw⟩, hcode, hini, hy, hlen, hl, hstt⟩ := cw
  have hK : Back l R p e below s args y 3 8 (PreOf R mc ms Pc) (PostOf Qc mc ms free) := va_backW (hh := hh) (bytes := bytes) (maxL := maxL) (ret := ret) hM hp.1 hrc hrs hfr hlo hws hcw (fun a' U hW => word_at hW (Or.inl (by first | rfl | simp [Cond.onTables, Cond.keeps, Cond.steady])) hini)
  obtain ⟨hx, hb, hml, ho, -⟩ := S
  intro T hT X
  obtain ⟨v, vm₁, ⟨U', l2, c2, s2⟩, hW₁, X', ⟨g', mk, t, L, e1, e2, hq, h1, hL, h2, h3⟩, st⟩ := vx_callSW X hx (hh := hh) (bytes := bytes) (maxL := maxL) (ret := ret) ho hl hstt hini hcode hy hK hg (hsize.trans hml.symm) (argsL := As) (rest := rest) (fun sig h => hn.trans (hlen sig h)) hstack hW (by rw [hb]; exact hdg)
    (fun vm₁ hW₁ => ⟨hf.1, hf.2, hp.2 (T.setVm vm₁) hT hW₁⟩)
  dsimp only [Pt.U, Pt.locs, Pt.cells, Pt.slots] at X' e1 e2 h1 h2 h3 st
  subst h1; subst h2; subst h3
  exact ⟨v, (T.setVm vm₁).calling g' mk As.toArray, t, U', L, hT, X', hL, e1, e2, hq, st⟩
/-- not caught here, past rows that name other classes: it goes on to the caller -/
theorem vx_outP {p : Program} {l : Launch} {e : Env} {R : Room} {s : State} {m : MethodId} {args : Array Value} {below : List Frame} {meth : Method} {c : Code} {H : Heap} {locs : List Loc} {cells slots : Nat} {free : Addr → Prop} {ls : Array Slot} {rest : List Value} {Qc : Array Value → State → Outcome → State → Prop} {XC : String → State → State → Prop}
    {pc : Nat} {own E : String} {ce : Cell} {q : Addr} {mc ms : Nat} (hown : s.vm.findClass own = some m.cls) (hlocks : meth.locks = false)
    (hpass : ∀ z ∈ c.exceptionTable.toList, covers z pc = false ∨ (z.catchType ≠ 0 ∧ ∃ nm : String, (Cond.classLink own z.catchType nm).before args s = true ∧ va_Nc E nm s)) (hcell : H[q]? = some ce) (hv : ce.vm = .none) (hcl : s.vm.findClass E = some ce.cls)
    (hx : ∀ t : State, t.heap = H → s.vm.Alike t.vm → XC E s t) (hf : ∀ z ∈ locs, free z.base) (hc : cells ≤ mc) (hs : slots ≤ ms) :
    vx_W p l e R s m args below meth c H locs cells slots (vx_MQ below Qc XC args s mc ms free) (F0 m pc ls rest) q := by
  intro T hT X
  have hpl : e.platform.magicAccessors = ({} : Platform).magicAccessors := by rw [X.admits.platform]
  obtain ⟨vm', hW', X', st⟩ := X.outThrough hlocks q (g := F0 m pc ls rest) rfl rfl rfl (cell := ce) (by rw [hT]; exact hcell) (by rw [hv]; rfl)
    (by obtain ⟨k9, h9, -⟩ := Vm.findClass_spec hcl; exact ⟨k9, h9⟩) (fun z hz => by
      rcases hpass z hz with h | ⟨hz0, nm, hl1, hn1⟩
      · exact Or.inl h
      · obtain ⟨c6, hc6, hcl6⟩ := Cond.classLink_spec hown hl1 e.platform hpl
        obtain ⟨a8, b8, h1, h2, h3⟩ := hn1
        cases Option.some.inj (h1.symm.trans hcl)
        cases Option.some.inj (h2.symm.trans hc6)
        exact Or.inr ⟨hz0, _, hcl6, h3⟩)
  obtain ⟨g₀, hfr⟩ := X'.frames_eq
  have hcell9 : ((T.setVm vm').setFrames (.throwing q :: below)).heap[q]? = some ce := by
    show T.heap[q]? = some ce
    rw [hT]; exact hcell
  have hend : Ended ((T.setVm vm').setFrames (.throwing q :: below)) below (.threw q) := State.frames_setFrames _ (State.cur_lt_of_frames hfr)
  refine ⟨(T.setVm vm').setFrames (.throwing q :: below), ?_, .threw q, X'.here.running, hend, Or.inr ⟨q, rfl, E, ce, locs, hx _ hT (X'.ends _).1.alike, hcell9, hv, hcl, (X'.ends _).1, (X'.ends _).2.mono hc hs, hf⟩⟩
  rw [X.pushThrowing_eq]
  exact st
/-- a thing of a world lies in the heap -/
theorem vx_lt {D : va_G} {cl : List vw_C} {ws : va_W} {H1 : Heap} (h : va_P D cl ws H1) {k : Nat} {q : Nat × va_E} (hk : ws[k]? = some q) : q.1 < H1.size := (h k q hk).lt
end VXS
/-! ===== END ===== -/
/-! ===== BEGIN methods with a table of their own: called by a name, returning or throwing ===== -/
section VXH
/-! vx_backW, vx_callVX, vx_callSX, vx_callVW, vx_runVW, vx_runVX, vx_runSX, vx_ofWH follow the same proofs as their sisters above (Free/Laws.lean, Shelf42/LK1.lean); vx_outP calls Shelf42/NT130.lean (outThrough). -/
section
variable {l : Launch} {R : Room} {p : Program} {e : Env} {below : List Frame} {s : State} {sargs : Array Value} {y : MethodName} {len W9 : Nat}
theorem vx_backW {ws : List Cond} {rm : Room} {Pc : Array Value → State → Prop} {Qc : Array Value → State → Outcome → State → Prop} {XC : String → State → State → Prop} {mc ms : Nat} {free : Addr → Prop} {bytes : ByteArray} {maxL : Nat} {ret : Option FieldType} {hh : List (Nat × Nat × Nat × Nat)}
    (hM : vx_Met l y ws rm Pc Qc XC mc ms free) (hblind : FrameBlind Pc) (hrc : rm.cells = mc) (hrs : rm.slots = ms)
    (hframes : rm.frames + 1 ≤ R.frames) (hlocals : W9 + (maxL + 11) + rm.locals ≤ R.locals)
    (hws : ∀ w ∈ ws, ∀ a' U, s.WarmedH U.vm → w.before a' U = true) (hcode : Cond.codeWith y bytes maxL ret hh ∈ ws) (hinit : ∀ a' U, s.WarmedH U.vm → (Cond.initialized y.cls).before a' U = true) :
    vx_Back l R p e below s sargs y len W9 (PreOf R mc ms Pc) (PostOf Qc mc ms free) (vx_Post XC mc ms free) := by
  intro m meth c A g ig mk a X hg hsize hdg hW hn hp
  have h1 : (headSpec ws rm).pre.before a A.U = true := atoms_intro fun w hw => hws w hw _ _ X.warmed
  have h2 : (Cond.codeWith y bytes maxL ret hh).before a A.U = true := hws _ hcode _ _ X.warmed
  have h3 : (Cond.initialized y.cls).before a A.U = true := hinit _ _ X.warmed
  have h4 : A.cells + (headSpec ws rm).room.cells ≤ R.cells := by rw [show (headSpec ws rm).room.cells = mc from hrc]; exact hp.1
  have h5 : A.slots + (headSpec ws rm).room.slots ≤ R.slots := by rw [show (headSpec ws rm).room.slots = ms from hrs]; exact hp.2.1
  have hPc : Pc a (A.U.calling g mk a) := hblind _ _ _ _ hp.2.2
  obtain ⟨U, Ls, c0, s0⟩ := A
  dsimp only [Pt.U, Pt.locs, Pt.cells, Pt.slots] at h1 h2 h3 h4 h5 X hn hPc ⊢
  obtain ⟨m9, methY, cY, hn9, hmY, hcY, -, hlY, -⟩ := Cond.codeWith_spec h2
  cases Option.some.inj (hn9.symm.trans hn)
  obtain ⟨kY, hkY, -⟩ := className_of_methodNamed hn
  have hinitY : kY.init = .initialized := Cond.initialized_spec (findClass_of_methodNamed hn) hkY h3
  have h : At U g.method c below := by rw [hg]; exact X.here
  have hlocals9 : W9 + (maxL + 11) + (headSpec ws rm).room.locals ≤ R.locals := hlocals
  have happ : (headSpec ws rm).appliesLoose y e.platform (U.calling g mk a) = true :=
    Spec.appliesLoose_calling (g := g) h hdg hn hkY hinitY
      (X.room_calling (g := g) (R' := (headSpec ws rm).room) hsize hmY hcY hframes (by rw [hlY]; omega) h4 h5) h1
  obtain ⟨mid, hmid⟩ := h.above
  have hfr : (U.setTop g).frames = (.java g :: mid) ++ below := by rw [State.frames_setTop' g h.top, hmid]; rfl
  obtain ⟨o, s₂, hsteps, -, hend, hq⟩ := Steps.callFree hM p X.admits X.cas X.clock (acts := []) hfr happ hPc trivial
  have hq' : vx_Q Qc XC mc ms free a (U.calling g mk a) o s₂ := hq
  rw [State.frames_setTop' g h.top] at hend
  obtain ⟨g₀, hg0⟩ := Option.isSome_iff_exists.mp h.top
  obtain ⟨r, hr⟩ := State.topJava?_eq_some.mp hg0
  have hr' : (({ U with heap := s₂.heap, slotsUsed := s₂.slotsUsed } : State).setVm s₂.vm).frames = .java g₀ :: r := hr
  rcases hq' with ⟨hqc, L, hfe, hL⟩ | ⟨q, rfl, E, ce, L, hx, hce, hcv, hcl, hW₂, hsm, hL⟩
  · obtain ⟨⟨v, rfl⟩, hW₂, e2, q2, q3, q4, q5, q6⟩ := id hfe
    have e3 : s₂ = ({ (U.calling g mk a).setFrames s₂.frames with heap := s₂.heap, slotsUsed := s₂.slotsUsed } : State).setVm s₂.vm := by
      have : s₂ = ({ s₂ with vm := (U.calling g mk a).vm } : State).setVm s₂.vm := rfl
      rw [e2] at this
      exact this
    obtain ⟨c₂, i₂, len₂, hc₂, hd₂, hf₂⟩ := hend
    have hW' : U.WarmedH s₂.vm := hW₂
    have hcc : c₂ = c := by
      have h1 : s₂.code? g.method = U.code? g.method := by
        rw [State.code?_eq, State.code?_eq, hW'.alike.method?]
      exact Option.some.inj (hc₂.symm.trans (h1.trans h.code))
    subst hcc
    have hlen : len₂ = len := by rw [hdg] at hd₂; cases hd₂; rfl
    subst hlen
    have hs₂ : s₂ = (({ U with heap := s₂.heap, slotsUsed := s₂.slotsUsed } : State).setVm s₂.vm).setTop { g with pc := g.pc + len₂, stack := v.toList ++ g.stack } := by
      refine e3.trans ?_
      rw [hf₂, State.calling_eq h.top, State.setFrames_setFrames, State.setTop_of_frames _ hr', hr]
      rfl
    have hsame : U.sameButNew ({ U with heap := s₂.heap, slotsUsed := s₂.slotsUsed } : State) L mc ms := by
      refine ⟨?_, q2, q3, q4, q5, q6⟩
      obtain ⟨t, ht, -⟩ := State.frames_cons hr
      show ({ U with heap := s₂.heap, slotsUsed := s₂.slotsUsed } : State) = { U.setFrames U.frames with heap := s₂.heap, slotsUsed := s₂.slotsUsed }
      rw [State.setFrames_self ht]
    subst hg
    refine Or.inl ⟨v, ⟨(({ U with heap := s₂.heap, slotsUsed := s₂.slotsUsed } : State).setVm s₂.vm), Ls ++ L, c0 + mc, s0 + ms⟩,
      ⟨X.admits, X.cas, X.clock, X.frames, X.room, X.hears, X.method, X.code, (X.here.setHeapUsed s₂.heap s₂.slotsUsed).setVm hW'.alike, X.tail, State.WarmedH.trans X.warmed hW', X.limits, X.bytes, X.same.trans (hsame.setVm s.vm)⟩,
      ⟨g, mk, s₂, L, rfl, rfl, hqc, rfl, hL, rfl, rfl⟩, ?_⟩
    show Steps p.tables e below _ ((({ U with heap := s₂.heap, slotsUsed := s₂.slotsUsed } : State).setVm s₂.vm).setTop { g with pc := g.pc + len₂, stack := v.toList ++ g.stack })
    rw [← hs₂]
    exact hsteps
  · obtain ⟨e2, q2, q3, q4, q5, q6⟩ := id hsm
    have e3 : s₂ = ({ (U.calling g mk a).setFrames s₂.frames with heap := s₂.heap, slotsUsed := s₂.slotsUsed } : State).setVm s₂.vm := by
      have : s₂ = ({ s₂ with vm := (U.calling g mk a).vm } : State).setVm s₂.vm := rfl
      rw [e2] at this
      exact this
    have hf₂ : s₂.frames = .throwing q :: .java g :: U.frames.tail := hend
    have hW' : U.WarmedH s₂.vm := hW₂
    have hs₂ : s₂ = ((({ U with heap := s₂.heap, slotsUsed := s₂.slotsUsed } : State).setVm s₂.vm).setTop g).pushFrame (.throwing q) := by
      refine e3.trans ?_
      rw [hf₂, State.calling_eq h.top, State.setFrames_setFrames, State.pushFrame, State.frames_setTop _ hr', State.setTop_of_frames _ hr', State.setFrames_setFrames, hr]
      rfl
    have hsame : U.sameButNew ({ U with heap := s₂.heap, slotsUsed := s₂.slotsUsed } : State) L mc ms := by
      refine ⟨?_, q2, q3, q4, q5, q6⟩
      obtain ⟨t, ht, -⟩ := State.frames_cons hr
      show ({ U with heap := s₂.heap, slotsUsed := s₂.slotsUsed } : State) = { U.setFrames U.frames with heap := s₂.heap, slotsUsed := s₂.slotsUsed }
      rw [State.setFrames_self ht]
    subst hg
    refine Or.inr ⟨q, ⟨(({ U with heap := s₂.heap, slotsUsed := s₂.slotsUsed } : State).setVm s₂.vm), Ls ++ L, c0 + mc, s0 + ms⟩,
      ⟨X.admits, X.cas, X.clock, X.frames, X.room, X.hears, X.method, X.code, (X.here.setHeapUsed s₂.heap s₂.slotsUsed).setVm hW'.alike, X.tail, State.WarmedH.trans X.warmed hW', X.limits, X.bytes, X.same.trans (hsame.setVm s.vm)⟩,
      ⟨g, mk, s₂, L, E, ce, rfl, rfl, hx, hce, hcv, hcl, rfl, hL, rfl, rfl⟩, ?_⟩
    show Steps p.tables e below _ (((({ U with heap := s₂.heap, slotsUsed := s₂.slotsUsed } : State).setVm s₂.vm).setTop g).pushFrame (.throwing q))
    rw [← hs₂]
    exact hsteps
end
variable {p : Program} {l : Launch} {e : Env} {R : Room} {s : State} {m : MethodId} {args : Array Value} {below : List Frame} {meth : Method} {c : Code} {T : State} {H : Heap} {locs : List Loc} {cells slots : Nat}
theorem vx_callVX (X : Stand p l e R s m args below meth c T locs cells slots) (hexec : p.tables.exec = Jvm.exec) {own C : String} {index : Nat} {y : MethodName} {bytes : ByteArray} {maxL : Nat} {ret : Option FieldType} {hh : List (Nat × Nat × Nat × Nat)}
    (hown : s.vm.findClass own = some m.cls) (hlink : (Cond.methodLink own index y).before args s = true) (hinst : (Cond.instanceMethod y).before args s = true) (hsel : (Cond.selects C y y).before args s = true)
    (hcode : (Cond.codeWith y bytes maxL ret hh).before args s = true) (hy : y.cls ≠ "java/lang/invoke/MethodHandle" ∧ y.cls ≠ "java/lang/invoke/VarHandle")
    {W9 : Nat} {Pre : Pt → Array Value → Prop} {Post : Pt → Array Value → Option Value → Pt → Prop} {PostX : Pt → Array Value → Addr → Pt → Prop} (hK : vx_Back l R p e below s args y 3 W9 Pre Post PostX)
    {b : Addr} {cellB : Cell} (hcell : T.heap[b]? = some cellB) (hobj : cellB.vm.isStatics = false) (hcls : s.vm.findClass C = some cellB.cls)
    {g : JFrame} (hg : g.method = m) (hsize : g.locals.size = c.maxLocals) {argsL rest : List Value} (hlen : ∀ sig, parseMethodDescriptor y.desc = some sig → argsL.length = sig.parameters.length)
    (hstack : g.stack = argsL.reverse ++ .ref b :: rest) (hW : 2 * g.monitorRoom + (rest.map fun v => v.category).sum ≤ W9) (hdg : decode c.code g.pc = .ok (.invokevirtual index, 3))
    (hpre : ∀ vm₁, s.WarmedH vm₁ → Pre ⟨T.setVm vm₁, locs, cells, slots⟩ (Value.ref b :: argsL).toArray) :
    (∃ (v : Option Value) (vm₁ : Vm) (B : Pt), s.WarmedH vm₁ ∧ Stand p l e R s m args below meth c B.U B.locs B.cells B.slots ∧ Post ⟨T.setVm vm₁, locs, cells, slots⟩ (Value.ref b :: argsL).toArray v B ∧
      ∀ target, Steps p.tables e below (B.U.setTop { g with pc := g.pc + 3, stack := v.toList ++ rest }) target → Steps p.tables e below (T.setTop g) target) ∨
    (∃ (q : Addr) (vm₁ : Vm) (B : Pt), s.WarmedH vm₁ ∧ Stand p l e R s m args below meth c B.U B.locs B.cells B.slots ∧ PostX ⟨T.setVm vm₁, locs, cells, slots⟩ (Value.ref b :: argsL).toArray q B ∧
      Steps p.tables e below (T.setTop g) ((B.U.setTop { g with stack := rest }).pushFrame (.throwing q))) := by
  obtain ⟨mk, methM, hnamed, hmethM, hstM, habM⟩ := Cond.instanceMethod_spec hinst
  obtain ⟨m8, methM', cM, hn8, hmethM', -, -, -, -, -, -, hsigM⟩ := Cond.codeWith_spec hcode
  cases Option.some.inj (hn8.symm.trans hnamed)
  cases hmethM.symm.trans hmethM'
  obtain ⟨c2, r2, m2, q1, q2, q3, q4, kP, hkP, hkPi⟩ := Cond.selects_spec hsel
  cases hcls.symm.trans q1
  cases (State.methodFound?_of_named hnamed hy).symm.trans q2
  cases hnamed.symm.trans q3
  have hselP : selectMethod e.platform s.vm cellB.cls mk = .method mk := by rw [Launch.admits_selectMethod X.admits]; exact q4
  obtain ⟨vm₁, X₁, hstep₁⟩ := X.invokevirtual hexec hown hlink hnamed hmethM hstM hkP hkPi hy (a := b) (cell := cellB) hcell
    (fun z h => by rw [h] at hobj; cases hobj) hselP hmethM habM hkP hkPi (g := g) hg (argsL := argsL) (rest := rest) (hlen _ hsigM) hstack hdg
  rcases hK m meth c ⟨T.setVm vm₁, locs, cells, slots⟩ { g with stack := rest } (.invokevirtual index) mk (Value.ref b :: argsL).toArray X₁ hg hsize hdg hW (X₁.named hnamed) (hpre vm₁ X₁.warmed) with ⟨v, B, X', hpost, hsteps⟩ | ⟨q, B, X', hpost, hsteps⟩
  · exact Or.inl ⟨v, vm₁, B, X₁.warmed, X', hpost, fun target h => hstep₁ _ fun acts => by rw [doInvoke_state]; exact hsteps.trans h⟩
  · exact Or.inr ⟨q, vm₁, B, X₁.warmed, X', hpost, hstep₁ _ fun acts => by rw [doInvoke_state]; exact hsteps⟩
theorem vx_callSX (X : Stand p l e R s m args below meth c T locs cells slots) (hexec : p.tables.exec = Jvm.exec) {own : String} {index : Nat} {y : MethodName} {bytes : ByteArray} {maxL : Nat} {ret : Option FieldType} {hh : List (Nat × Nat × Nat × Nat)}
    (hown : s.vm.findClass own = some m.cls) (hlink : (Cond.methodLink own index y).before args s = true) (hstat : (Cond.static y).before args s = true) (hinit : (Cond.initialized y.cls).before args s = true)
    (hcode : (Cond.codeWith y bytes maxL ret hh).before args s = true) (hy : y.cls ≠ "java/lang/invoke/MethodHandle" ∧ y.cls ≠ "java/lang/invoke/VarHandle")
    {W9 : Nat} {Pre : Pt → Array Value → Prop} {Post : Pt → Array Value → Option Value → Pt → Prop} {PostX : Pt → Array Value → Addr → Pt → Prop} (hK : vx_Back l R p e below s args y 3 W9 Pre Post PostX)
    {g : JFrame} (hg : g.method = m) (hsize : g.locals.size = c.maxLocals) {argsL rest : List Value} (hlen : ∀ sig, parseMethodDescriptor y.desc = some sig → argsL.length = sig.parameters.length)
    (hstack : g.stack = argsL.reverse ++ rest) (hW : 2 * g.monitorRoom + (rest.map fun v => v.category).sum ≤ W9) (hdg : decode c.code g.pc = .ok (.invokestatic index, 3))
    (hpre : ∀ vm₁, s.WarmedH vm₁ → Pre ⟨T.setVm vm₁, locs, cells, slots⟩ argsL.toArray) :
    (∃ (v : Option Value) (vm₁ : Vm) (B : Pt), s.WarmedH vm₁ ∧ Stand p l e R s m args below meth c B.U B.locs B.cells B.slots ∧ Post ⟨T.setVm vm₁, locs, cells, slots⟩ argsL.toArray v B ∧
      ∀ target, Steps p.tables e below (B.U.setTop { g with pc := g.pc + 3, stack := v.toList ++ rest }) target → Steps p.tables e below (T.setTop g) target) ∨
    (∃ (q : Addr) (vm₁ : Vm) (B : Pt), s.WarmedH vm₁ ∧ Stand p l e R s m args below meth c B.U B.locs B.cells B.slots ∧ PostX ⟨T.setVm vm₁, locs, cells, slots⟩ argsL.toArray q B ∧
      Steps p.tables e below (T.setTop g) ((B.U.setTop { g with stack := rest }).pushFrame (.throwing q))) := by
  obtain ⟨mk, methM, cM, hnamed, hmethM, -, -, -, -, -, -, hsigM⟩ := Cond.codeWith_spec hcode
  have hstatic : methM.isStatic = true := Cond.static_spec hnamed hmethM hstat
  obtain ⟨kP, hkP, -⟩ := className_of_methodNamed hnamed
  have hinitP : kP.init = .initialized := Cond.initialized_spec (findClass_of_methodNamed hnamed) hkP hinit
  obtain ⟨vm₁, X₁, hstep₁⟩ := X.invokestatic hexec hown hlink hnamed hmethM hstatic hkP hinitP hy (g := g) hg (argsL := argsL) (rest := rest) (hlen _ hsigM) hstack hdg
  rcases hK m meth c ⟨T.setVm vm₁, locs, cells, slots⟩ { g with stack := rest } (.invokestatic index) mk argsL.toArray X₁ hg hsize hdg hW (X₁.named hnamed) (hpre vm₁ X₁.warmed) with ⟨v, B, X', hpost, hsteps⟩ | ⟨q, B, X', hpost, hsteps⟩
  · exact Or.inl ⟨v, vm₁, B, X₁.warmed, X', hpost, fun target h => hstep₁ _ fun acts => by rw [doInvoke_state]; exact hsteps.trans h⟩
  · exact Or.inr ⟨q, vm₁, B, X₁.warmed, X', hpost, hstep₁ _ fun acts => by rw [doInvoke_state]; exact hsteps⟩
theorem vx_callVW (X : Stand p l e R s m args below meth c T locs cells slots) (hexec : p.tables.exec = Jvm.exec) {own C : String} {index : Nat} {y : MethodName} {bytes : ByteArray} {maxL : Nat} {ret : Option FieldType} {hh : List (Nat × Nat × Nat × Nat)}
    (hown : s.vm.findClass own = some m.cls) (hlink : (Cond.methodLink own index y).before args s = true) (hinst : (Cond.instanceMethod y).before args s = true) (hsel : (Cond.selects C y y).before args s = true)
    (hcode : (Cond.codeWith y bytes maxL ret hh).before args s = true) (hy : y.cls ≠ "java/lang/invoke/MethodHandle" ∧ y.cls ≠ "java/lang/invoke/VarHandle")
    {W9 : Nat} {Pre : Pt → Array Value → Prop} {Post : Pt → Array Value → Option Value → Pt → Prop} (hK : Back l R p e below s args y 3 W9 Pre Post)
    {b : Addr} {cellB : Cell} (hcell : T.heap[b]? = some cellB) (hobj : cellB.vm.isStatics = false) (hcls : s.vm.findClass C = some cellB.cls)
    {g : JFrame} (hg : g.method = m) (hsize : g.locals.size = c.maxLocals) {argsL rest : List Value} (hlen : ∀ sig, parseMethodDescriptor y.desc = some sig → argsL.length = sig.parameters.length)
    (hstack : g.stack = argsL.reverse ++ .ref b :: rest) (hW : 2 * g.monitorRoom + (rest.map fun v => v.category).sum ≤ W9) (hdg : decode c.code g.pc = .ok (.invokevirtual index, 3))
    (hpre : ∀ vm₁, s.WarmedH vm₁ → Pre ⟨T.setVm vm₁, locs, cells, slots⟩ (Value.ref b :: argsL).toArray) :
    ∃ (v : Option Value) (vm₁ : Vm) (B : Pt), s.WarmedH vm₁ ∧ Stand p l e R s m args below meth c B.U B.locs B.cells B.slots ∧ Post ⟨T.setVm vm₁, locs, cells, slots⟩ (Value.ref b :: argsL).toArray v B ∧
      ∀ target, Steps p.tables e below (B.U.setTop { g with pc := g.pc + 3, stack := v.toList ++ rest }) target → Steps p.tables e below (T.setTop g) target := by
  obtain ⟨mk, methM, hnamed, hmethM, hstM, habM⟩ := Cond.instanceMethod_spec hinst
  obtain ⟨m8, methM', cM, hn8, hmethM', -, -, -, -, -, -, hsigM⟩ := Cond.codeWith_spec hcode
  cases Option.some.inj (hn8.symm.trans hnamed)
  cases hmethM.symm.trans hmethM'
  obtain ⟨c2, r2, m2, q1, q2, q3, q4, kP, hkP, hkPi⟩ := Cond.selects_spec hsel
  cases hcls.symm.trans q1
  cases (State.methodFound?_of_named hnamed hy).symm.trans q2
  cases hnamed.symm.trans q3
  have hselP : selectMethod e.platform s.vm cellB.cls mk = .method mk := by rw [Launch.admits_selectMethod X.admits]; exact q4
  obtain ⟨vm₁, X₁, hstep₁⟩ := X.invokevirtual hexec hown hlink hnamed hmethM hstM hkP hkPi hy (a := b) (cell := cellB) hcell
    (fun z h => by rw [h] at hobj; cases hobj) hselP hmethM habM hkP hkPi (g := g) hg (argsL := argsL) (rest := rest) (hlen _ hsigM) hstack hdg
  obtain ⟨v, B, X', hpost, hsteps⟩ := hK m meth c ⟨T.setVm vm₁, locs, cells, slots⟩ { g with stack := rest } (.invokevirtual index) mk (Value.ref b :: argsL).toArray X₁ hg hsize hdg hW (X₁.named hnamed) (hpre vm₁ X₁.warmed)
  exact ⟨v, vm₁, B, X₁.warmed, X', hpost, fun target h => hstep₁ _ fun acts => by rw [doInvoke_state]; exact hsteps.trans h⟩
abbrev vx_CVW (R : Room) (s : State) (args : Array Value) (own C : String) (index : Nat) (y : MethodName) (bytes : ByteArray) (maxL : Nat) (ret : Option FieldType) (hh : List (Nat × Nat × Nat × Nat)) (ws : List Cond) (rm : Room) (mc ms n : Nat) : Prop :=
  (rm.cells = mc ∧ rm.slots = ms ∧ rm.frames + 1 ≤ R.frames ∧ 8 + (maxL + 11) + rm.locals ≤ R.locals ∧ (∀ w ∈ ws, ∀ (a' : Array Value) (U : State), s.WarmedH U.vm → w.before a' U = true) ∧ Cond.codeWith y bytes maxL ret hh ∈ ws) ∧
  (Cond.codeWith y bytes maxL ret hh).before args s = true ∧ (Cond.initialized y.cls).before args s = true ∧ (y.cls ≠ "java/lang/invoke/MethodHandle" ∧ y.cls ≠ "java/lang/invoke/VarHandle") ∧
  (∀ sig, parseMethodDescriptor y.desc = some sig → n = sig.parameters.length) ∧ (Cond.methodLink own index y).before args s = true ∧ (Cond.instanceMethod y).before args s = true ∧ (Cond.selects C y y).before args s = true
theorem vx_cwVW {own C : String} {index maxL mc ms : Nat} {y : MethodName} {bytes : ByteArray} {ret : Option FieldType} {hh : List (Nat × Nat × Nat × Nat)} {Ts ws ws' : List Cond} {rm : Room} (n : Nat) (ht : ∀ w ∈ Ts, w.before args s = true) (hT : GoodIn Ts (wsV own index C y ws)) (hw : ws = Cond.codeWith y bytes maxL ret hh :: ws') (hrc : rm.cells = mc) (hrs : rm.slots = ms)
    (hd : y.cls = C ∧ y.cls ≠ "java/lang/invoke/MethodHandle" ∧ y.cls ≠ "java/lang/invoke/VarHandle" ∧ (parseMethodDescriptor y.desc).map (fun d => d.parameters.length) = some n) (hR : rm.frames + 1 ≤ R.frames ∧ 8 + (maxL + 11) + rm.locals ≤ R.locals) :
    vx_CVW R s args own C index y bytes maxL ret hh ws rm mc ms n := by
  obtain ⟨hC, hd⟩ := hd
  subst hC
  have ok : ∀ w ∈ wsV own index y.cls y ws, w.before args s = true := fun w h => ht w (hT w h).1
  have hG : GoodIn Ts ws := fun w h => hT w (by unfold wsV; exact List.mem_append_right _ h)
  have hc : Cond.codeWith y bytes maxL ret hh ∈ ws := by rw [hw]; exact List.mem_cons_self
  refine ⟨⟨hrc, hrs, hR.1, hR.2, pay_in ht hG, hc⟩, ht _ (hG _ hc).1, ok _ (by simp [wsV]), ⟨hd.1, hd.2.1⟩, fun sig h => ?_, ok _ (by simp [wsV]), ok _ (by simp [wsV]), ok _ (by simp [wsV])⟩
  have h2 := hd.2.2
  rw [h] at h2
  exact (Option.some.inj h2).symm
theorem vx_runVW {y : MethodName} {bytes cc : ByteArray} {maxL nL mc ms n index : Nat} {ret : Option FieldType} {hh : List (Nat × Nat × Nat × Nat)} {ws : List Cond} {rm : Room} {Pc : Array Value → State → Prop} {Qc : Array Value → State → Outcome → State → Prop} {free : Addr → Prop} {Ts : List Cond} {own C : String} {b : Addr} {As rest : List Value} {g : JFrame}
    (S : CallFix p m c cc nL s args Ts own) (hM : Met l y ws rm Pc Qc mc ms free) (cw : vx_CVW R s args own C index y bytes maxL ret hh ws rm mc ms n) (hp : PreV s H C b Pc As)
    (hg : g.method = m) (hn : As.length = n) (hsize : g.locals.size = nL) (hstack : g.stack = As.reverse ++ .ref b :: rest) (hW : 2 * g.monitorRoom + (rest.map fun v => v.category).sum ≤ 8) (hdg : decode cc g.pc = .ok (.invokevirtual index, 3)) (hf : cells + mc ≤ R.cells ∧ slots + ms ≤ R.slots) :
    va_Run p l e R s m args below meth c H locs cells slots mc ms g rest (Qc (Value.ref b :: As).toArray) free := by
  obtain ⟨⟨hrc, hrs, hfr, hlo, hws, hcw⟩, hcode, hini, hy, hlen, hl, hin, hse⟩ := cw
  have hK : Back l R p e below s args y 3 8 (PreOf R mc ms Pc) (PostOf Qc mc ms free) := va_backW (hh := hh) (bytes := bytes) (maxL := maxL) (ret := ret) hM hp.1 hrc hrs hfr hlo hws hcw (fun a' U hW => word_at hW (Or.inl (by first | rfl | simp [Cond.onTables, Cond.keeps, Cond.steady])) hini)
  obtain ⟨hx, hb, hml, ho, -⟩ := S
  obtain ⟨-, ⟨cellB, hcB, hoB, hclB⟩, hPc⟩ := hp
  intro T hT X
  obtain ⟨v, vm₁, ⟨U', l2, c2, s2⟩, hW₁, X', ⟨g', mk, t, L, e1, e2, hq, h1, hL, h2, h3⟩, st⟩ := vx_callVW X hx (C := C) (hh := hh) (bytes := bytes) (maxL := maxL) (ret := ret) ho hl hin hse hcode hy hK (by rw [hT]; exact hcB) hoB hclB hg (hsize.trans hml.symm) (argsL := As) (rest := rest) (fun sig h => hn.trans (hlen sig h)) hstack hW (by rw [hb]; exact hdg)
    (fun vm₁ hW₁ => ⟨hf.1, hf.2, hPc (T.setVm vm₁) hT hW₁⟩)
  dsimp only [Pt.U, Pt.locs, Pt.cells, Pt.slots] at X' e1 e2 h1 h2 h3 st
  subst h1; subst h2; subst h3
  exact ⟨v, (T.setVm vm₁).calling g' mk (Value.ref b :: As).toArray, t, U', L, hT, X', hL, e1, e2, hq, st⟩
section
variable {y : MethodName} {bytes cc : ByteArray} {maxL nL mc ms n index : Nat} {ret : Option FieldType} {ws : List Cond} {rm : Room} {Pc : Array Value → State → Prop} {Qc : Array Value → State → Outcome → State → Prop} {XC : String → State → State → Prop} {free : Addr → Prop} {Ts : List Cond} {own C : String} {b : Addr} {As rest : List Value} {g : JFrame}
theorem vx_runVX {hh : List (Nat × Nat × Nat × Nat)} (S : CallFix p m c cc nL s args Ts own) (hM : vx_Met l y ws rm Pc Qc XC mc ms free) (cw : vx_CVW R s args own C index y bytes maxL ret hh ws rm mc ms n) (hp : PreV s H C b Pc As)
    (hg : g.method = m) (hn : As.length = n) (hsize : g.locals.size = nL) (hstack : g.stack = As.reverse ++ .ref b :: rest) (hW : 2 * g.monitorRoom + (rest.map fun v => v.category).sum ≤ 8) (hdg : decode cc g.pc = .ok (.invokevirtual index, 3)) (hf : cells + mc ≤ R.cells ∧ slots + ms ≤ R.slots) :
    vx_Run p l e R s m args below meth c H locs cells slots mc ms g rest (Qc (Value.ref b :: As).toArray) XC free := by
  obtain ⟨⟨hrc, hrs, hfr, hlo, hws, hcw⟩, hcode, hini, hy, hlen, hl, hin, hse⟩ := cw
  have hK : vx_Back l R p e below s args y 3 8 (PreOf R mc ms Pc) (PostOf Qc mc ms free) (vx_Post XC mc ms free) := vx_backW (hh := hh) (bytes := bytes) (maxL := maxL) (ret := ret) hM hp.1 hrc hrs hfr hlo hws hcw (fun a' U hW => word_at hW (Or.inl (by first | rfl | simp [Cond.onTables, Cond.keeps, Cond.steady])) hini)
  obtain ⟨hx, hb, hml, ho, -⟩ := S
  obtain ⟨-, ⟨cellB, hcB, hoB, hclB⟩, hPc⟩ := hp
  intro T hT X
  rcases vx_callVX X hx (C := C) (hh := hh) (bytes := bytes) (maxL := maxL) (ret := ret) ho hl hin hse hcode hy hK (by rw [hT]; exact hcB) hoB hclB hg (hsize.trans hml.symm) (argsL := As) (rest := rest) (fun sig h => hn.trans (hlen sig h)) hstack hW (by rw [hb]; exact hdg)
    (fun vm₁ hW₁ => ⟨hf.1, hf.2, hPc (T.setVm vm₁) hT hW₁⟩) with ⟨v, vm₁, ⟨U', l2, c2, s2⟩, hW₁, X', ⟨g', mk, t, L, e1, e2, hq, h1, hL, h2, h3⟩, st⟩ | ⟨q, vm₁, ⟨U', l2, c2, s2⟩, hW₁, X', ⟨g', mk, t, L, E, ce, e1, e2, hq, hce, hcv, hcl, h1, hL, h2, h3⟩, st⟩
  · dsimp only [Pt.U, Pt.locs, Pt.cells, Pt.slots] at X' e1 e2 h1 h2 h3 st
    subst h1; subst h2; subst h3
    exact Or.inl ⟨v, (T.setVm vm₁).calling g' mk (Value.ref b :: As).toArray, t, U', L, hT, X', hL, e1, e2, hq, st⟩
  · dsimp only [Pt.U, Pt.locs, Pt.cells, Pt.slots] at X' e1 e2 h1 h2 h3 st hcl
    subst h1; subst h2; subst h3
    exact Or.inr ⟨q, (T.setVm vm₁).calling g' mk (Value.ref b :: As).toArray, t, U', L, E, ce, hT, X', hL, e1, e2, hq, hce, hcv, vx_cls hW₁ hcl, st⟩
theorem vx_runSX {hh : List (Nat × Nat × Nat × Nat)} (S : CallFix p m c cc nL s args Ts own) (hM : vx_Met l y ws rm Pc Qc XC mc ms free) (cw : vx_CSW R s args own index y bytes maxL ret hh ws rm mc ms n) (hp : PreS s H Pc As)
    (hg : g.method = m) (hn : As.length = n) (hsize : g.locals.size = nL) (hstack : g.stack = As.reverse ++ rest) (hW : 2 * g.monitorRoom + (rest.map fun v => v.category).sum ≤ 8) (hdg : decode cc g.pc = .ok (.invokestatic index, 3)) (hf : cells + mc ≤ R.cells ∧ slots + ms ≤ R.slots) :
    vx_Run p l e R s m args below meth c H locs cells slots mc ms g rest (Qc As.toArray) XC free := by
  obtain ⟨⟨hrc, hrs, hfr, hlo, hws, hcw⟩, hcode, hini, hy, hlen, hl, hstt⟩ := cw
  have hK : vx_Back l R p e below s args y 3 8 (PreOf R mc ms Pc) (PostOf Qc mc ms free) (vx_Post XC mc ms free) := vx_backW (hh := hh) (bytes := bytes) (maxL := maxL) (ret := ret) hM hp.1 hrc hrs hfr hlo hws hcw (fun a' U hW => word_at hW (Or.inl (by first | rfl | simp [Cond.onTables, Cond.keeps, Cond.steady])) hini)
  obtain ⟨hx, hb, hml, ho, -⟩ := S
  intro T hT X
  rcases vx_callSX X hx (hh := hh) (bytes := bytes) (maxL := maxL) (ret := ret) ho hl hstt hini hcode hy hK hg (hsize.trans hml.symm) (argsL := As) (rest := rest) (fun sig h => hn.trans (hlen sig h)) hstack hW (by rw [hb]; exact hdg)
    (fun vm₁ hW₁ => ⟨hf.1, hf.2, hp.2 (T.setVm vm₁) hT hW₁⟩) with ⟨v, vm₁, ⟨U', l2, c2, s2⟩, hW₁, X', ⟨g', mk, t, L, e1, e2, hq, h1, hL, h2, h3⟩, st⟩ | ⟨q, vm₁, ⟨U', l2, c2, s2⟩, hW₁, X', ⟨g', mk, t, L, E, ce, e1, e2, hq, hce, hcv, hcl, h1, hL, h2, h3⟩, st⟩
  · dsimp only [Pt.U, Pt.locs, Pt.cells, Pt.slots] at X' e1 e2 h1 h2 h3 st
    subst h1; subst h2; subst h3
    exact Or.inl ⟨v, (T.setVm vm₁).calling g' mk As.toArray, t, U', L, hT, X', hL, e1, e2, hq, st⟩
  · dsimp only [Pt.U, Pt.locs, Pt.cells, Pt.slots] at X' e1 e2 h1 h2 h3 st hcl
    subst h1; subst h2; subst h3
    exact Or.inr ⟨q, (T.setVm vm₁).calling g' mk As.toArray, t, U', L, E, ce, hT, X', hL, e1, e2, hq, hce, hcv, vx_cls hW₁ hcl, st⟩
end
end VXH
theorem vx_ofWH {l : Launch} {y : MethodName} {ws ws' : List Cond} {rm : Room} {Pc : Array Value → State → Prop} {Qc : Array Value → State → Outcome → State → Prop} {XC : String → State → State → Prop} {mc ms : Nat} {free : Addr → Prop} {cc : ByteArray} {maxL : Nat} {ret : Option FieldType} {hh : List (Nat × Nat × Nat × Nat)}
    (hy : plainName y.cls = true) (hw : ws = Cond.codeWith y cc maxL ret hh :: ws')
    (body : ∀ p e s m args below meth c s₁, BodyLoose p l y (headSpec ws rm) cc maxL ret e s m args below meth c s₁ → c.maxLocals = maxL → Pc args s →
      W p l e (headSpec ws rm).room s m args below meth c s.heap [] 0 0 (vx_MQ below Qc XC args s mc ms free) (entryFrame m args maxL)) : vx_Met l y ws rm Pc Qc XC mc ms free := by
  refine MetFree.of_bodyS (code := cc) (maxLocals := maxL) (ret := ret) hy ?_ ?_
  · intro args s m h hn
    obtain ⟨m9, meth, c, hn9, h1, h2, h3, h4, -, h5, h6, -⟩ := Cond.codeWith_spec (atoms_spec (ws := ws) h _ (by rw [hw]; exact List.mem_cons_self))
    cases hn.symm.trans hn9
    exact ⟨meth, c, h1, h2, h3, h4, h5, h6⟩
  · intro p e s m args below meth c s₁ B hml hP _
    have hh0 : s₁.heap = s.heap := by rw [B.state]; rfl
    obtain ⟨t, a1, o, b1, b2, b3⟩ := body p e s m args below meth c s₁ B hml hP s₁ hh0 (Stand.of_body B)
    exact ⟨t, o, a1, b1, b2, b3⟩
/-! ===== END ===== -/
end
section
-- ===== PART A: goes FIRST, ahead of the names: the tables' words, and 'selects' of the private methods out of them =====
/-- a private method of a class that the tables say can be made, by its rows of tables_1 -/
def lw_okq (q : MethodName × Nat) : Prop := (q.1.cls ≠ "java/lang/invoke/MethodHandle" ∧ q.1.cls ≠ "java/lang/invoke/VarHandle") ∧ Cond.instantiable q.1.cls q.2 ∈ tables_1 ∧ Cond.privateMethod q.1 ∈ tables_1 ∧ Cond.instanceMethod q.1 ∈ tables_1
theorem lw_p0 : lw_okq (⟨"CaseDesk", "mayBeMoved", "(II)Z"⟩, 5) := ⟨⟨by decide +kernel, by decide +kernel⟩, List.mem_of_getElem? (i := 15) (by decide +kernel), List.mem_of_getElem? (i := 189) (by decide +kernel), List.mem_of_getElem? (i := 190) (by decide +kernel)⟩
theorem lw_p1 : lw_okq (⟨"CaseDesk", "parentLets", "(I)Z"⟩, 5) := ⟨⟨by decide +kernel, by decide +kernel⟩, List.mem_of_getElem? (i := 15) (by decide +kernel), List.mem_of_getElem? (i := 193) (by decide +kernel), List.mem_of_getElem? (i := 194) (by decide +kernel)⟩
theorem lw_p2 : lw_okq (⟨"CaseDesk", "stateAndKindFit", "(II)Z"⟩, 5) := ⟨⟨by decide +kernel, by decide +kernel⟩, List.mem_of_getElem? (i := 15) (by decide +kernel), List.mem_of_getElem? (i := 197) (by decide +kernel), List.mem_of_getElem? (i := 198) (by decide +kernel)⟩
theorem lw_p3 : lw_okq (⟨"CaseDesk", "isSettled", "(I)Z"⟩, 5) := ⟨⟨by decide +kernel, by decide +kernel⟩, List.mem_of_getElem? (i := 15) (by decide +kernel), List.mem_of_getElem? (i := 201) (by decide +kernel), List.mem_of_getElem? (i := 202) (by decide +kernel)⟩
theorem lw_p4 : lw_okq (⟨"java/lang/Throwable", "fillInStackTrace", "(I)Ljava/lang/Throwable;"⟩, 6) := ⟨⟨by decide +kernel, by decide +kernel⟩, List.mem_of_getElem? (i := 273) (by decide +kernel), List.mem_of_getElem? (i := 271) (by decide +kernel), List.mem_of_getElem? (i := 272) (by decide +kernel)⟩
theorem lw_p5 : lw_okq (⟨"CaseDesk", "openCommand", "()V"⟩, 5) := ⟨⟨by decide +kernel, by decide +kernel⟩, List.mem_of_getElem? (i := 15) (by decide +kernel), List.mem_of_getElem? (i := 394) (by decide +kernel), List.mem_of_getElem? (i := 395) (by decide +kernel)⟩
theorem lw_p6 : lw_okq (⟨"CaseDesk", "create", "(III)V"⟩, 5) := ⟨⟨by decide +kernel, by decide +kernel⟩, List.mem_of_getElem? (i := 15) (by decide +kernel), List.mem_of_getElem? (i := 405) (by decide +kernel), List.mem_of_getElem? (i := 406) (by decide +kernel)⟩
theorem lw_p7 : lw_okq (⟨"CaseDesk", "make", "(III)V"⟩, 5) := ⟨⟨by decide +kernel, by decide +kernel⟩, List.mem_of_getElem? (i := 15) (by decide +kernel), List.mem_of_getElem? (i := 413) (by decide +kernel), List.mem_of_getElem? (i := 414) (by decide +kernel)⟩
theorem lw_p8 : lw_okq (⟨"CaseDesk", "markSiblings", "(II)V"⟩, 5) := ⟨⟨by decide +kernel, by decide +kernel⟩, List.mem_of_getElem? (i := 15) (by decide +kernel), List.mem_of_getElem? (i := 430) (by decide +kernel), List.mem_of_getElem? (i := 431) (by decide +kernel)⟩
theorem lw_p9 : lw_okq (⟨"CaseDesk", "mark", "(II)V"⟩, 5) := ⟨⟨by decide +kernel, by decide +kernel⟩, List.mem_of_getElem? (i := 15) (by decide +kernel), List.mem_of_getElem? (i := 434) (by decide +kernel), List.mem_of_getElem? (i := 435) (by decide +kernel)⟩
theorem lw_p10 : lw_okq (⟨"CaseDesk", "moveWhatIsIn", "(III)V"⟩, 5) := ⟨⟨by decide +kernel, by decide +kernel⟩, List.mem_of_getElem? (i := 15) (by decide +kernel), List.mem_of_getElem? (i := 438) (by decide +kernel), List.mem_of_getElem? (i := 439) (by decide +kernel)⟩
theorem lw_p11 : lw_okq (⟨"CaseDesk", "createWhatIsIn", "(II)V"⟩, 5) := ⟨⟨by decide +kernel, by decide +kernel⟩, List.mem_of_getElem? (i := 15) (by decide +kernel), List.mem_of_getElem? (i := 442) (by decide +kernel), List.mem_of_getElem? (i := 443) (by decide +kernel)⟩
theorem lw_p12 : lw_okq (⟨"CaseDesk", "exitChildren", "(II)V"⟩, 5) := ⟨⟨by decide +kernel, by decide +kernel⟩, List.mem_of_getElem? (i := 15) (by decide +kernel), List.mem_of_getElem? (i := 446) (by decide +kernel), List.mem_of_getElem? (i := 447) (by decide +kernel)⟩
theorem lw_p13 : lw_okq (⟨"CaseDesk", "moveChildren", "(IIII)V"⟩, 5) := ⟨⟨by decide +kernel, by decide +kernel⟩, List.mem_of_getElem? (i := 15) (by decide +kernel), List.mem_of_getElem? (i := 450) (by decide +kernel), List.mem_of_getElem? (i := 451) (by decide +kernel)⟩
theorem lw_p14 : lw_okq (⟨"CaseDesk", "repeat", "(II)V"⟩, 5) := ⟨⟨by decide +kernel, by decide +kernel⟩, List.mem_of_getElem? (i := 15) (by decide +kernel), List.mem_of_getElem? (i := 454) (by decide +kernel), List.mem_of_getElem? (i := 455) (by decide +kernel)⟩
theorem lw_p15 : lw_okq (⟨"CaseDesk", "workOff", "()I"⟩, 5) := ⟨⟨by decide +kernel, by decide +kernel⟩, List.mem_of_getElem? (i := 15) (by decide +kernel), List.mem_of_getElem? (i := 462) (by decide +kernel), List.mem_of_getElem? (i := 463) (by decide +kernel)⟩
def lw_privs_1 : List (MethodName × Nat) := [(⟨"CaseDesk", "mayBeMoved", "(II)Z"⟩, 5), (⟨"CaseDesk", "parentLets", "(I)Z"⟩, 5), (⟨"CaseDesk", "stateAndKindFit", "(II)Z"⟩, 5), (⟨"CaseDesk", "isSettled", "(I)Z"⟩, 5), (⟨"java/lang/Throwable", "fillInStackTrace", "(I)Ljava/lang/Throwable;"⟩, 6), (⟨"CaseDesk", "openCommand", "()V"⟩, 5), (⟨"CaseDesk", "create", "(III)V"⟩, 5), (⟨"CaseDesk", "make", "(III)V"⟩, 5), (⟨"CaseDesk", "markSiblings", "(II)V"⟩, 5), (⟨"CaseDesk", "mark", "(II)V"⟩, 5), (⟨"CaseDesk", "moveWhatIsIn", "(III)V"⟩, 5), (⟨"CaseDesk", "createWhatIsIn", "(II)V"⟩, 5), (⟨"CaseDesk", "exitChildren", "(II)V"⟩, 5), (⟨"CaseDesk", "moveChildren", "(IIII)V"⟩, 5), (⟨"CaseDesk", "repeat", "(II)V"⟩, 5), (⟨"CaseDesk", "workOff", "()I"⟩, 5)]
theorem lw_r1 : ∀ q ∈ lw_privs_1, lw_okq q := List.forall_mem_cons.mpr ⟨lw_p0, List.forall_mem_cons.mpr ⟨lw_p1, List.forall_mem_cons.mpr ⟨lw_p2, List.forall_mem_cons.mpr ⟨lw_p3, List.forall_mem_cons.mpr ⟨lw_p4, List.forall_mem_cons.mpr ⟨lw_p5, List.forall_mem_cons.mpr ⟨lw_p6, List.forall_mem_cons.mpr ⟨lw_p7, List.forall_mem_cons.mpr ⟨lw_p8, List.forall_mem_cons.mpr ⟨lw_p9, List.forall_mem_cons.mpr ⟨lw_p10, List.forall_mem_cons.mpr ⟨lw_p11, List.forall_mem_cons.mpr ⟨lw_p12, List.forall_mem_cons.mpr ⟨lw_p13, List.forall_mem_cons.mpr ⟨lw_p14, List.forall_mem_cons.mpr ⟨lw_p15, fun _ h => absurd h List.not_mem_nil⟩⟩⟩⟩⟩⟩⟩⟩⟩⟩⟩⟩⟩⟩⟩⟩
theorem lw_p16 : lw_okq (⟨"CaseDesk", "lowestToExit", "()I"⟩, 5) := ⟨⟨by decide +kernel, by decide +kernel⟩, List.mem_of_getElem? (i := 15) (by decide +kernel), List.mem_of_getElem? (i := 466) (by decide +kernel), List.mem_of_getElem? (i := 467) (by decide +kernel)⟩
theorem lw_p17 : lw_okq (⟨"CaseDesk", "hasSatisfied", "(IZ)Z"⟩, 5) := ⟨⟨by decide +kernel, by decide +kernel⟩, List.mem_of_getElem? (i := 15) (by decide +kernel), List.mem_of_getElem? (i := 470) (by decide +kernel), List.mem_of_getElem? (i := 471) (by decide +kernel)⟩
theorem lw_p18 : lw_okq (⟨"CaseDesk$Plan", "ifPartHolds", "(I[I)Z"⟩, 14) := ⟨⟨by decide +kernel, by decide +kernel⟩, List.mem_of_getElem? (i := 23) (by decide +kernel), List.mem_of_getElem? (i := 478) (by decide +kernel), List.mem_of_getElem? (i := 479) (by decide +kernel)⟩
theorem lw_p19 : lw_okq (⟨"CaseDesk", "lowestToEnter", "()I"⟩, 5) := ⟨⟨by decide +kernel, by decide +kernel⟩, List.mem_of_getElem? (i := 15) (by decide +kernel), List.mem_of_getElem? (i := 482) (by decide +kernel), List.mem_of_getElem? (i := 483) (by decide +kernel)⟩
theorem lw_p20 : lw_okq (⟨"CaseDesk", "letIn", "(I)V"⟩, 5) := ⟨⟨by decide +kernel, by decide +kernel⟩, List.mem_of_getElem? (i := 15) (by decide +kernel), List.mem_of_getElem? (i := 486) (by decide +kernel), List.mem_of_getElem? (i := 487) (by decide +kernel)⟩
theorem lw_p21 : lw_okq (⟨"CaseDesk", "lowestToComplete", "()I"⟩, 5) := ⟨⟨by decide +kernel, by decide +kernel⟩, List.mem_of_getElem? (i := 15) (by decide +kernel), List.mem_of_getElem? (i := 490) (by decide +kernel), List.mem_of_getElem? (i := 491) (by decide +kernel)⟩
theorem lw_p22 : lw_okq (⟨"CaseDesk", "isDone", "(I)Z"⟩, 5) := ⟨⟨by decide +kernel, by decide +kernel⟩, List.mem_of_getElem? (i := 15) (by decide +kernel), List.mem_of_getElem? (i := 494) (by decide +kernel), List.mem_of_getElem? (i := 495) (by decide +kernel)⟩
theorem lw_p23 : lw_okq (⟨"CaseDesk", "hasWaitingChild", "(I)Z"⟩, 5) := ⟨⟨by decide +kernel, by decide +kernel⟩, List.mem_of_getElem? (i := 15) (by decide +kernel), List.mem_of_getElem? (i := 498) (by decide +kernel), List.mem_of_getElem? (i := 499) (by decide +kernel)⟩
theorem lw_p24 : lw_okq (⟨"CaseDesk", "markAll", "(I)V"⟩, 5) := ⟨⟨by decide +kernel, by decide +kernel⟩, List.mem_of_getElem? (i := 15) (by decide +kernel), List.mem_of_getElem? (i := 552) (by decide +kernel), List.mem_of_getElem? (i := 553) (by decide +kernel)⟩
theorem lw_p25 : lw_okq (⟨"CaseDeskModel", "fail", "(I)I"⟩, 43) := ⟨⟨by decide +kernel, by decide +kernel⟩, List.mem_of_getElem? (i := 556) (by decide +kernel), List.mem_of_getElem? (i := 700) (by decide +kernel), List.mem_of_getElem? (i := 701) (by decide +kernel)⟩
theorem lw_p26 : lw_okq (⟨"CaseDeskModel", "isSentry", "(I)Z"⟩, 43) := ⟨⟨by decide +kernel, by decide +kernel⟩, List.mem_of_getElem? (i := 556) (by decide +kernel), List.mem_of_getElem? (i := 715) (by decide +kernel), List.mem_of_getElem? (i := 716) (by decide +kernel)⟩
theorem lw_p27 : lw_okq (⟨"CaseDeskModel", "keep", "()V"⟩, 43) := ⟨⟨by decide +kernel, by decide +kernel⟩, List.mem_of_getElem? (i := 556) (by decide +kernel), List.mem_of_getElem? (i := 727) (by decide +kernel), List.mem_of_getElem? (i := 728) (by decide +kernel)⟩
theorem lw_p28 : lw_okq (⟨"CaseDeskModel", "create", "(II)V"⟩, 43) := ⟨⟨by decide +kernel, by decide +kernel⟩, List.mem_of_getElem? (i := 556) (by decide +kernel), List.mem_of_getElem? (i := 731) (by decide +kernel), List.mem_of_getElem? (i := 732) (by decide +kernel)⟩
theorem lw_p29 : lw_okq (⟨"CaseDeskModel", "book", "(II)Z"⟩, 43) := ⟨⟨by decide +kernel, by decide +kernel⟩, List.mem_of_getElem? (i := 556) (by decide +kernel), List.mem_of_getElem? (i := 735) (by decide +kernel), List.mem_of_getElem? (i := 736) (by decide +kernel)⟩
theorem lw_p30 : lw_okq (⟨"CaseDeskModel", "mark", "(II)V"⟩, 43) := ⟨⟨by decide +kernel, by decide +kernel⟩, List.mem_of_getElem? (i := 556) (by decide +kernel), List.mem_of_getElem? (i := 739) (by decide +kernel), List.mem_of_getElem? (i := 740) (by decide +kernel)⟩
theorem lw_p31 : lw_okq (⟨"CaseDeskModel", "isFinal", "(I)Z"⟩, 43) := ⟨⟨by decide +kernel, by decide +kernel⟩, List.mem_of_getElem? (i := 556) (by decide +kernel), List.mem_of_getElem? (i := 743) (by decide +kernel), List.mem_of_getElem? (i := 744) (by decide +kernel)⟩
def lw_privs_2 : List (MethodName × Nat) := [(⟨"CaseDesk", "lowestToExit", "()I"⟩, 5), (⟨"CaseDesk", "hasSatisfied", "(IZ)Z"⟩, 5), (⟨"CaseDesk$Plan", "ifPartHolds", "(I[I)Z"⟩, 14), (⟨"CaseDesk", "lowestToEnter", "()I"⟩, 5), (⟨"CaseDesk", "letIn", "(I)V"⟩, 5), (⟨"CaseDesk", "lowestToComplete", "()I"⟩, 5), (⟨"CaseDesk", "isDone", "(I)Z"⟩, 5), (⟨"CaseDesk", "hasWaitingChild", "(I)Z"⟩, 5), (⟨"CaseDesk", "markAll", "(I)V"⟩, 5), (⟨"CaseDeskModel", "fail", "(I)I"⟩, 43), (⟨"CaseDeskModel", "isSentry", "(I)Z"⟩, 43), (⟨"CaseDeskModel", "keep", "()V"⟩, 43), (⟨"CaseDeskModel", "create", "(II)V"⟩, 43), (⟨"CaseDeskModel", "book", "(II)Z"⟩, 43), (⟨"CaseDeskModel", "mark", "(II)V"⟩, 43), (⟨"CaseDeskModel", "isFinal", "(I)Z"⟩, 43)]
theorem lw_r2 : ∀ q ∈ lw_privs_2, lw_okq q := List.forall_mem_cons.mpr ⟨lw_p16, List.forall_mem_cons.mpr ⟨lw_p17, List.forall_mem_cons.mpr ⟨lw_p18, List.forall_mem_cons.mpr ⟨lw_p19, List.forall_mem_cons.mpr ⟨lw_p20, List.forall_mem_cons.mpr ⟨lw_p21, List.forall_mem_cons.mpr ⟨lw_p22, List.forall_mem_cons.mpr ⟨lw_p23, List.forall_mem_cons.mpr ⟨lw_p24, List.forall_mem_cons.mpr ⟨lw_p25, List.forall_mem_cons.mpr ⟨lw_p26, List.forall_mem_cons.mpr ⟨lw_p27, List.forall_mem_cons.mpr ⟨lw_p28, List.forall_mem_cons.mpr ⟨lw_p29, List.forall_mem_cons.mpr ⟨lw_p30, List.forall_mem_cons.mpr ⟨lw_p31, fun _ h => absurd h List.not_mem_nil⟩⟩⟩⟩⟩⟩⟩⟩⟩⟩⟩⟩⟩⟩⟩⟩
theorem lw_p32 : lw_okq (⟨"CaseDeskModel", "make", "(II)V"⟩, 43) := ⟨⟨by decide +kernel, by decide +kernel⟩, List.mem_of_getElem? (i := 556) (by decide +kernel), List.mem_of_getElem? (i := 747) (by decide +kernel), List.mem_of_getElem? (i := 748) (by decide +kernel)⟩
theorem lw_p33 : lw_okq (⟨"CaseDeskModel", "enter", "(II)V"⟩, 43) := ⟨⟨by decide +kernel, by decide +kernel⟩, List.mem_of_getElem? (i := 556) (by decide +kernel), List.mem_of_getElem? (i := 751) (by decide +kernel), List.mem_of_getElem? (i := 752) (by decide +kernel)⟩
theorem lw_p34 : lw_okq (⟨"CaseDeskModel", "kindOf", "(I)I"⟩, 43) := ⟨⟨by decide +kernel, by decide +kernel⟩, List.mem_of_getElem? (i := 556) (by decide +kernel), List.mem_of_getElem? (i := 758) (by decide +kernel), List.mem_of_getElem? (i := 759) (by decide +kernel)⟩
theorem lw_p35 : lw_okq (⟨"CaseDeskModel", "again", "(II)V"⟩, 43) := ⟨⟨by decide +kernel, by decide +kernel⟩, List.mem_of_getElem? (i := 556) (by decide +kernel), List.mem_of_getElem? (i := 762) (by decide +kernel), List.mem_of_getElem? (i := 763) (by decide +kernel)⟩
theorem lw_p36 : lw_okq (⟨"CaseDeskModel", "hasFlag", "(II)Z"⟩, 43) := ⟨⟨by decide +kernel, by decide +kernel⟩, List.mem_of_getElem? (i := 556) (by decide +kernel), List.mem_of_getElem? (i := 766) (by decide +kernel), List.mem_of_getElem? (i := 767) (by decide +kernel)⟩
theorem lw_p37 : lw_okq (⟨"CaseDeskModel", "hasEntry", "(I)Z"⟩, 43) := ⟨⟨by decide +kernel, by decide +kernel⟩, List.mem_of_getElem? (i := 556) (by decide +kernel), List.mem_of_getElem? (i := 770) (by decide +kernel), List.mem_of_getElem? (i := 771) (by decide +kernel)⟩
theorem lw_p38 : lw_okq (⟨"CaseDeskModel", "parentActive", "(I)Z"⟩, 43) := ⟨⟨by decide +kernel, by decide +kernel⟩, List.mem_of_getElem? (i := 556) (by decide +kernel), List.mem_of_getElem? (i := 774) (by decide +kernel), List.mem_of_getElem? (i := 775) (by decide +kernel)⟩
theorem lw_p39 : lw_okq (⟨"CaseDeskModel", "follows", "(II)Z"⟩, 43) := ⟨⟨by decide +kernel, by decide +kernel⟩, List.mem_of_getElem? (i := 556) (by decide +kernel), List.mem_of_getElem? (i := 778) (by decide +kernel), List.mem_of_getElem? (i := 779) (by decide +kernel)⟩
theorem lw_p40 : lw_okq (⟨"CaseDeskModel", "finish", "(I)I"⟩, 43) := ⟨⟨by decide +kernel, by decide +kernel⟩, List.mem_of_getElem? (i := 556) (by decide +kernel), List.mem_of_getElem? (i := 782) (by decide +kernel), List.mem_of_getElem? (i := 783) (by decide +kernel)⟩
theorem lw_p41 : lw_okq (⟨"CaseDeskModel", "workOff", "()V"⟩, 43) := ⟨⟨by decide +kernel, by decide +kernel⟩, List.mem_of_getElem? (i := 556) (by decide +kernel), List.mem_of_getElem? (i := 786) (by decide +kernel), List.mem_of_getElem? (i := 787) (by decide +kernel)⟩
theorem lw_p42 : lw_okq (⟨"CaseDeskModel", "toExit", "()I"⟩, 43) := ⟨⟨by decide +kernel, by decide +kernel⟩, List.mem_of_getElem? (i := 556) (by decide +kernel), List.mem_of_getElem? (i := 790) (by decide +kernel), List.mem_of_getElem? (i := 791) (by decide +kernel)⟩
theorem lw_p43 : lw_okq (⟨"CaseDeskModel", "someSatisfied", "(IZ)Z"⟩, 43) := ⟨⟨by decide +kernel, by decide +kernel⟩, List.mem_of_getElem? (i := 556) (by decide +kernel), List.mem_of_getElem? (i := 794) (by decide +kernel), List.mem_of_getElem? (i := 795) (by decide +kernel)⟩
theorem lw_p44 : lw_okq (⟨"CaseDeskModel", "satisfied", "(II)Z"⟩, 43) := ⟨⟨by decide +kernel, by decide +kernel⟩, List.mem_of_getElem? (i := 556) (by decide +kernel), List.mem_of_getElem? (i := 798) (by decide +kernel), List.mem_of_getElem? (i := 799) (by decide +kernel)⟩
theorem lw_p45 : lw_okq (⟨"CaseDeskModel", "toLetIn", "()I"⟩, 43) := ⟨⟨by decide +kernel, by decide +kernel⟩, List.mem_of_getElem? (i := 556) (by decide +kernel), List.mem_of_getElem? (i := 802) (by decide +kernel), List.mem_of_getElem? (i := 803) (by decide +kernel)⟩
theorem lw_p46 : lw_okq (⟨"CaseDeskModel", "letIn", "(I)V"⟩, 43) := ⟨⟨by decide +kernel, by decide +kernel⟩, List.mem_of_getElem? (i := 556) (by decide +kernel), List.mem_of_getElem? (i := 806) (by decide +kernel), List.mem_of_getElem? (i := 807) (by decide +kernel)⟩
theorem lw_p47 : lw_okq (⟨"CaseDeskModel", "toComplete", "()I"⟩, 43) := ⟨⟨by decide +kernel, by decide +kernel⟩, List.mem_of_getElem? (i := 556) (by decide +kernel), List.mem_of_getElem? (i := 810) (by decide +kernel), List.mem_of_getElem? (i := 811) (by decide +kernel)⟩
def lw_privs_3 : List (MethodName × Nat) := [(⟨"CaseDeskModel", "make", "(II)V"⟩, 43), (⟨"CaseDeskModel", "enter", "(II)V"⟩, 43), (⟨"CaseDeskModel", "kindOf", "(I)I"⟩, 43), (⟨"CaseDeskModel", "again", "(II)V"⟩, 43), (⟨"CaseDeskModel", "hasFlag", "(II)Z"⟩, 43), (⟨"CaseDeskModel", "hasEntry", "(I)Z"⟩, 43), (⟨"CaseDeskModel", "parentActive", "(I)Z"⟩, 43), (⟨"CaseDeskModel", "follows", "(II)Z"⟩, 43), (⟨"CaseDeskModel", "finish", "(I)I"⟩, 43), (⟨"CaseDeskModel", "workOff", "()V"⟩, 43), (⟨"CaseDeskModel", "toExit", "()I"⟩, 43), (⟨"CaseDeskModel", "someSatisfied", "(IZ)Z"⟩, 43), (⟨"CaseDeskModel", "satisfied", "(II)Z"⟩, 43), (⟨"CaseDeskModel", "toLetIn", "()I"⟩, 43), (⟨"CaseDeskModel", "letIn", "(I)V"⟩, 43), (⟨"CaseDeskModel", "toComplete", "()I"⟩, 43)]
theorem lw_r3 : ∀ q ∈ lw_privs_3, lw_okq q := List.forall_mem_cons.mpr ⟨lw_p32, List.forall_mem_cons.mpr ⟨lw_p33, List.forall_mem_cons.mpr ⟨lw_p34, List.forall_mem_cons.mpr ⟨lw_p35, List.forall_mem_cons.mpr ⟨lw_p36, List.forall_mem_cons.mpr ⟨lw_p37, List.forall_mem_cons.mpr ⟨lw_p38, List.forall_mem_cons.mpr ⟨lw_p39, List.forall_mem_cons.mpr ⟨lw_p40, List.forall_mem_cons.mpr ⟨lw_p41, List.forall_mem_cons.mpr ⟨lw_p42, List.forall_mem_cons.mpr ⟨lw_p43, List.forall_mem_cons.mpr ⟨lw_p44, List.forall_mem_cons.mpr ⟨lw_p45, List.forall_mem_cons.mpr ⟨lw_p46, List.forall_mem_cons.mpr ⟨lw_p47, fun _ h => absurd h List.not_mem_nil⟩⟩⟩⟩⟩⟩⟩⟩⟩⟩⟩⟩⟩⟩⟩⟩
theorem lw_p48 : lw_okq (⟨"CaseDeskModel", "done", "(I)Z"⟩, 43) := ⟨⟨by decide +kernel, by decide +kernel⟩, List.mem_of_getElem? (i := 556) (by decide +kernel), List.mem_of_getElem? (i := 814) (by decide +kernel), List.mem_of_getElem? (i := 815) (by decide +kernel)⟩
theorem lw_p49 : lw_okq (⟨"CaseDeskModel", "settled", "(I)Z"⟩, 43) := ⟨⟨by decide +kernel, by decide +kernel⟩, List.mem_of_getElem? (i := 556) (by decide +kernel), List.mem_of_getElem? (i := 818) (by decide +kernel), List.mem_of_getElem? (i := 819) (by decide +kernel)⟩
theorem lw_p50 : lw_okq (⟨"CaseDeskModel", "putBack", "()V"⟩, 43) := ⟨⟨by decide +kernel, by decide +kernel⟩, List.mem_of_getElem? (i := 556) (by decide +kernel), List.mem_of_getElem? (i := 822) (by decide +kernel), List.mem_of_getElem? (i := 823) (by decide +kernel)⟩
theorem lw_p51 : lw_okq (⟨"CaseDeskModel", "refusal", "(II)I"⟩, 43) := ⟨⟨by decide +kernel, by decide +kernel⟩, List.mem_of_getElem? (i := 556) (by decide +kernel), List.mem_of_getElem? (i := 830) (by decide +kernel), List.mem_of_getElem? (i := 831) (by decide +kernel)⟩
theorem lw_p52 : lw_okq (⟨"CaseDeskModel", "allowed", "(II)Z"⟩, 43) := ⟨⟨by decide +kernel, by decide +kernel⟩, List.mem_of_getElem? (i := 556) (by decide +kernel), List.mem_of_getElem? (i := 834) (by decide +kernel), List.mem_of_getElem? (i := 835) (by decide +kernel)⟩
theorem lw_p53 : lw_okq (⟨"CaseDeskModel", "markVariable", "(I)V"⟩, 43) := ⟨⟨by decide +kernel, by decide +kernel⟩, List.mem_of_getElem? (i := 556) (by decide +kernel), List.mem_of_getElem? (i := 846) (by decide +kernel), List.mem_of_getElem? (i := 847) (by decide +kernel)⟩
def lw_privs_4 : List (MethodName × Nat) := [(⟨"CaseDeskModel", "done", "(I)Z"⟩, 43), (⟨"CaseDeskModel", "settled", "(I)Z"⟩, 43), (⟨"CaseDeskModel", "putBack", "()V"⟩, 43), (⟨"CaseDeskModel", "refusal", "(II)I"⟩, 43), (⟨"CaseDeskModel", "allowed", "(II)Z"⟩, 43), (⟨"CaseDeskModel", "markVariable", "(I)V"⟩, 43)]
theorem lw_r4 : ∀ q ∈ lw_privs_4, lw_okq q := List.forall_mem_cons.mpr ⟨lw_p48, List.forall_mem_cons.mpr ⟨lw_p49, List.forall_mem_cons.mpr ⟨lw_p50, List.forall_mem_cons.mpr ⟨lw_p51, List.forall_mem_cons.mpr ⟨lw_p52, List.forall_mem_cons.mpr ⟨lw_p53, fun _ h => absurd h List.not_mem_nil⟩⟩⟩⟩⟩⟩
def lw_privs : List (MethodName × Nat) := lw_privs_1 ++ (lw_privs_2 ++ (lw_privs_3 ++ (lw_privs_4)))
def lw_tbl : List Cond := k2_sels lw_privs ++ tables_1
theorem lw_privs_ok : ∀ q ∈ lw_privs, lw_okq q := by
  show ∀ q ∈ lw_privs_1 ++ (lw_privs_2 ++ (lw_privs_3 ++ (lw_privs_4))), lw_okq q
  exact List.forall_mem_append.mpr ⟨lw_r1, List.forall_mem_append.mpr ⟨lw_r2, List.forall_mem_append.mpr ⟨lw_r3, lw_r4⟩⟩⟩
end
section
/-! cells are only added; references that are kept mean the same -/
def xj_ag (n : Nat) (ad ad' : Nat → Nat) : Prop := ∀ i, i < n ∨ (1000 ≤ i ∧ i < 2000) → ad' i = ad i
theorem xj_ag.rf {n : Nat} {ad : Nat → Nat} : xj_ag n ad ad := fun _ _ => rfl
theorem xj_ag.trans {n n' : Nat} {a b c : Nat → Nat} (h : xj_ag n a b) (hn : n ≤ n') (h' : xj_ag n' b c) : xj_ag n a c := fun i hi => (h' i (hi.imp (fun q => Nat.lt_of_lt_of_le q hn) id)).trans (h i hi)
theorem xj_cv_ag {n : Nat} {ad ad' : Nat → Nat} (h : xj_ag n ad ad') {v : Value} (hv : xj_ok n v = true) : xj_cv ad' v = xj_cv ad v := by
  cases v with
  | ref a =>
    simp only [xj_ok, Bool.or_eq_true, Bool.and_eq_true, decide_eq_true_eq] at hv
    simp only [xj_cv, h a hv]
  | _ => rfl
theorem xj_cl_ag {n : Nat} {ad ad' : Nat → Nat} (h : xj_ag n ad ad') {ls : List (Nat × Value)} (hv : ls.all (fun q => xj_ok n q.2) = true) : xj_cl ad' ls = xj_cl ad ls := by
  apply List.map_congr_left
  intro q hq
  rw [xj_cv_ag h (List.all_eq_true.mp hv q hq)]
theorem xj_st_ag {n : Nat} {ad ad' : Nat → Nat} (h : xj_ag n ad ad') {st : List Value} (hv : st.all (xj_ok n) = true) : st.map (xj_cv ad') = st.map (xj_cv ad) := by
  apply List.map_congr_left
  intro q hq
  rw [xj_cv_ag h (List.all_eq_true.mp hv q hq)]
/-- a plain step makes no cell -/
theorem xj_step_len {X : xj_T} {m : Nat} {i : Instr} {nx pc pc' : Nat} {ls ls' : List (Nat × Value)} {st st' : List Value} {w w' : xj_W} (h : xj_step X m i nx pc ls st w = some (pc', ls', st', w')) : w'.1.length = w.1.length := by
  unfold xj_step at h
  rcases xj_or_some h with h | h
  · unfold xj_sA at h
    split at h <;> simp only [Option.some.injEq, Prod.mk.injEq, reduceCtorEq] at h
    obtain ⟨-, -, -, rfl⟩ := h; rfl
  rcases xj_or_some h with h | h
  · unfold xj_sB at h
    repeat' split at h
    all_goals simp only [Option.some.injEq, Prod.mk.injEq, reduceCtorEq] at h
    obtain ⟨-, -, -, rfl⟩ := h; rfl
  rcases xj_or_some h with h | h
  · unfold xj_sC at h
    repeat' split at h
    all_goals simp only [Option.some.injEq, Prod.mk.injEq, reduceCtorEq] at h
    obtain ⟨-, -, -, rfl⟩ := h; rfl
  rcases xj_or_some h with h | h
  · unfold xj_sD at h
    repeat' split at h
    all_goals simp only [Option.some.injEq, Prod.mk.injEq, reduceCtorEq] at h
    obtain ⟨-, -, -, rfl⟩ := h; rfl
  rcases xj_or_some h with h | h
  · unfold xj_sE at h
    repeat' split at h
    all_goals simp only [Option.some.injEq, Prod.mk.injEq, reduceCtorEq] at h
    obtain ⟨-, -, -, rfl⟩ := h; rfl
  rcases xj_or_some h with h | h
  · unfold xj_sF at h
    repeat' split at h
    all_goals simp only [Option.some.injEq, Prod.mk.injEq, reduceCtorEq] at h
    obtain ⟨-, -, -, rfl⟩ := h; rfl
  rcases xj_or_some h with h | h
  · unfold xj_sG at h
    repeat' split at h
    all_goals simp only [Option.some.injEq, Prod.mk.injEq, reduceCtorEq] at h
    all_goals (obtain ⟨-, -, -, rfl⟩ := h; rfl)
  rcases xj_or_some h with h | h
  · unfold xj_sJ at h
    repeat' split at h
    all_goals simp only [Option.some.injEq, Prod.mk.injEq, reduceCtorEq] at h
    all_goals (obtain ⟨-, -, -, rfl⟩ := h; first | rfl | exact List.length_set)
  rcases xj_or_some h with h | h
  · unfold xj_sL at h
    repeat' split at h
    all_goals simp only [Option.some.injEq, Prod.mk.injEq, reduceCtorEq] at h
    all_goals (obtain ⟨-, -, -, rfl⟩ := h; rfl)
  rcases xj_or_some h with h | h
  · unfold xj_sH at h
    repeat' split at h
    all_goals first
      | cases h
      | (obtain ⟨t, -, he⟩ := Option.map_eq_some_iff.mp h
         simp only [Prod.mk.injEq] at he
         obtain ⟨-, -, -, rfl⟩ := he; rfl)
  rcases xj_or_some h with h | h
  · unfold xj_sI at h
    repeat' split at h
    all_goals simp only [Option.some.injEq, Prod.mk.injEq, reduceCtorEq] at h
    all_goals (obtain ⟨-, -, -, rfl⟩ := h; rfl)
  · unfold xj_sM at h
    repeat' split at h
    all_goals simp only [Option.some.injEq, Prod.mk.injEq, reduceCtorEq] at h
    all_goals (obtain ⟨-, -, -, rfl⟩ := h; rfl)
theorem xj_end_w {X : xj_T} {m : Nat} {i : Instr} {st : List Value} {w w' : xj_W} {o : Option Value ⊕ Nat} {c z : Nat} (h : xj_end X m i st w = some (o, w', c, z)) : w' = w ∧ c = 0 ∧ z = 0 := by
  unfold xj_end at h
  repeat' split at h
  all_goals simp only [Option.some.injEq, Prod.mk.injEq, reduceCtorEq] at h
  all_goals (obtain ⟨-, rfl, rfl, rfl⟩ := h; exact ⟨rfl, rfl, rfl⟩)
theorem xj_grow (X : xj_T) : ∀ (n d m pc : Nat) (ls : List (Nat × Value)) (st : List Value) (w : xj_W) (o : Option Value ⊕ Nat) (w' : xj_W) (c z : Nat), xj_run X n d m pc ls st w = some (o, w', c, z) → w.1.length ≤ w'.1.length := by
  intro n
  induction n with
  | zero => intro d m pc ls st w o w' c z h; simp [xj_run] at h
  | succ n ih =>
    intro d m pc ls st w o w' c z h
    rw [xj_run_succ] at h
    unfold xj_lay at h
    cases hcd : xj_cd X m pc with
    | none => simp [hcd] at h
    | some q =>
      obtain ⟨i, nx⟩ := q
      simp only [hcd] at h
      cases hs : xj_step X m i nx pc ls st w with
      | some f =>
        obtain ⟨pc', ls', st', w1⟩ := f
        simp only [hs] at h
        have h1 := ih _ _ _ _ _ _ _ _ _ _ h
        rw [xj_step_len hs] at h1
        exact h1
      | none =>
        simp only [hs] at h
        cases hi : xj_inv X m i st w with
        | some f =>
          obtain ⟨kd, y, av, rest⟩ := f
          simp only [hi] at h
          split at h
          · cases hy : xj_run X n (d - 1) y 0 (lv_args 0 av) [] w with
            | none => simp [hy] at h
            | some f =>
              obtain ⟨o1, w1, c1, z1⟩ := f
              have h1 := ih _ _ _ _ _ _ _ _ _ _ hy
              simp only [hy] at h
              cases o1 with
              | inl v =>
                simp only at h
                obtain ⟨o2, w2, c2, z2, e1, e2⟩ := xj_add_some h
                have h2 := ih _ _ _ _ _ _ _ _ _ _ e1
                simp only [Prod.mk.injEq] at e2
                obtain ⟨-, rfl, -, -⟩ := e2
                exact Nat.le_trans h1 h2
              | inr q =>
                simp only at h
                cases hca : xj_ca X m pc q with
                | none => simp [hca] at h
                | some hp0 =>
                 cases hp0 with
                 | none =>
                  simp only [hca] at h
                  split at h
                  · simp only [Option.some.injEq, Prod.mk.injEq] at h
                    obtain ⟨-, rfl, -, -⟩ := h
                    exact h1
                  · cases h
                 | some hp =>
                  simp only [hca] at h
                  split at h
                  · obtain ⟨o2, w2, c2, z2, e1, e2⟩ := xj_add_some h
                    have h2 := ih _ _ _ _ _ _ _ _ _ _ e1
                    simp only [Prod.mk.injEq] at e2
                    obtain ⟨-, rfl, -, -⟩ := e2
                    exact Nat.le_trans h1 h2
                  · cases h
          · cases h
        | none =>
          simp only [hi] at h
          cases he : xj_end X m i st w with
          | some f =>
            obtain ⟨o1, w1, c1, z1⟩ := f
            simp only [he, Option.some.injEq, Prod.mk.injEq] at h
            obtain ⟨-, rfl, -, -⟩ := h
            rw [(xj_end_w he).1]
            exact Nat.le_refl _
          | none =>
            simp only [he] at h
            cases ht : xj_th X m pc with
            | some q =>
              simp only [ht] at h
              split at h
              · simp only [Option.some.injEq, Prod.mk.injEq] at h
                obtain ⟨-, rfl, -, -⟩ := h
                exact Nat.le_refl _
              · cases h
            | none =>
              simp only [ht] at h
              cases hk : xj_mk X m i st with
              | none => simp [hk] at h
              | some f =>
                obtain ⟨sh, z0, rest⟩ := f
                simp only [hk] at h
                split at h
                · obtain ⟨o2, w2, c2, z2, e1, e2⟩ := xj_add_some h
                  have h2 := ih _ _ _ _ _ _ _ _ _ _ e1
                  simp only [Prod.mk.injEq] at e2
                  obtain ⟨-, rfl, -, -⟩ := e2
                  simp only [List.length_append, List.length_cons, List.length_nil] at h2
                  omega
                · cases h
end
section
/-! returns, and new cells -/
section XJ4
variable {p : Program} {l : Launch} {e : Env} {R : Room} {s : State} {m : MethodId} {args : Array Value} {below : List Frame} {meth : Method} {c : Code} {H : Heap} {locs : List Loc} {cells slots : Nat} {Q : State → Prop}
variable {D : va_G} {cl : List vw_C} {cA : FieldType → ClassId} {A : Nat → Prop} {nL : Nat} {ad : Nat → Nat} {cc : ByteArray}
variable {X : xj_T} {mi : Nat} {own : String} {Ts : List Jvm.Cond}
variable {i : Instr} {nx pc pc' : Nat} {ls ls' : List (Nat × Value)} {st st' : List Value} {w w' : xj_W} {la : Array Slot}
theorem xj_rt {Qc : Array Value → State → Outcome → State → Prop} {free : Addr → Prop} {o : Option Value ⊕ Nat} {c0 z0 : Nat} (hx : p.tables.exec = Jvm.exec) (hb : c.code = cc) (hr : meth.sig.returnType = (xj_mt X mi).2) (hlocks : meth.locks = false) (h : xj_end X mi i st w = some (o, w', c0, z0)) (hd : xj_dec cc nL pc i nx)
    (hq : ∀ v, o = .inl v → ∀ t : State, t.heap = H → s.WarmedH t.vm → Qc args s (.returned (v.map (xj_cv ad))) t) (hf : ∀ q ∈ locs, free q.base) :
    W p l e R s m args below meth c H locs cells slots (MQ below Qc args s cells slots free) (F0 m pc la (st.map (xj_cv ad))) := by
  obtain ⟨len, hdec, hfit⟩ := hd
  unfold xj_end at h
  split at h
  · split at h
    · rename_i hmt
      simp only [Option.some.injEq, Prod.mk.injEq] at h
      obtain ⟨rfl, rfl, rfl, rfl⟩ := h
      simp only [xj_fit, Bool.and_eq_true, decide_eq_true_eq] at hfit
      obtain ⟨rfl, rfl⟩ := hfit
      exact W.vret hx hb (hr.trans hmt) (fun t ht hW => hq none rfl t ht hW) hf hdec hlocks
    · cases h
  · rename_i v
    split at h
    · rename_i hmt
      simp only [Option.some.injEq, Prod.mk.injEq] at h
      obtain ⟨rfl, rfl, rfl, rfl⟩ := h
      simp only [xj_fit, Bool.and_eq_true, decide_eq_true_eq] at hfit
      obtain ⟨rfl, rfl⟩ := hfit
      exact W.iret hx hb (hr.trans hmt) (fun t ht hW => hq _ rfl t ht hW) hf hdec hlocks
    · rename_i hmt
      split at h
      · rename_i h01
        simp only [Option.some.injEq, Prod.mk.injEq] at h
        obtain ⟨rfl, rfl, rfl, rfl⟩ := h
        simp only [xj_fit, Bool.and_eq_true, decide_eq_true_eq] at hfit
        obtain ⟨rfl, rfl⟩ := hfit
        refine W.zret hx hb (hr.trans hmt) ?_ (fun t ht hW => hq _ rfl t ht hW) hf hdec hlocks
        rcases h01 with rfl | rfl
        · rfl
        · rfl
      · cases h
    · cases h
  · cases h
theorem xj_ag_up {n : Nat} {ad : Nat → Nat} {q : Nat} (hn : n < 1000) : xj_ag n ad (va_up ad n q) := fun i hi => va_up_ne ad q (by omega)
theorem xj_ag_up2 {n : Nat} {ad : Nat → Nat} {q : Nat} (hn : n < 1000) : xj_ag n ad (va_up ad 4096 q) := fun i hi => va_up_ne ad q (by omega)
/-- the cells' contents under addresses that agree -/
theorem xj_cell_ag {n : Nat} {ad ad' : Nat → Nat} (hag : xj_ag n ad ad') {σ : Nat → Int32} {τ : Nat → Int64} {sh : xj_S} (h : (match sh with | .inr (_, fs) => fs.all (xj_ok n) | .inl _ => true) = true) : xj_cell ad' cA σ τ sh = xj_cell ad cA σ τ sh := by
  rcases sh with ⟨ty, k⟩ | ⟨ci, fs⟩
  · cases ty <;> rfl
  · show Sum.inr (ci, fs.mapIdx (xj_fv ad' σ)) = Sum.inr (ci, fs.mapIdx (xj_fv ad σ))
    congr 2
    apply List.ext_getElem?
    intro j
    simp only [List.getElem?_mapIdx]
    cases hj : fs[j]? with
    | none => rfl
    | some v =>
      have hv := List.all_eq_true.mp h v (List.mem_of_getElem? hj)
      have e9 := xj_cv_ag hag hv
      cases v <;> first | rfl | (simp only [Option.map_some, xj_fv]; rw [e9])
theorem xj_wok_lt (hw : xj_wok w = true) : w.1.length < 1000 := by
  simp only [xj_wok, Bool.and_eq_true, decide_eq_true_eq] at hw
  exact hw.1
theorem xj_cw_ag {ad ad' : Nat → Nat} (hag : xj_ag w.1.length ad ad') (hw : xj_wok w = true) : xj_cw ad' cA w = xj_cw ad cA w := by
  apply List.ext_getElem?
  intro j
  simp only [xj_cw, List.getElem?_mapIdx]
  cases hj : w.1[j]? with
  | none => rfl
  | some sh =>
    have hl := (List.getElem?_eq_some_iff.mp hj).1
    simp only [Option.map_some]
    simp only [xj_wok, Bool.and_eq_true] at hw
    rw [hag j (Or.inl hl), xj_cell_ag hag (List.all_eq_true.mp hw.2 sh (List.mem_of_getElem? hj))]
/-- one cell more -/
theorem xj_cw_app {ad : Nat → Nat} {q : Nat} {sh : xj_S} {ad' : Nat → Nat} {σ' : Nat → Nat → Int32} {τ' : Nat → Nat → Int64} {e : va_E} (hw : xj_wok w = true) (had : ad' = va_up ad w.1.length q) (h1 : ∀ j, j ≠ w.1.length → σ' j = w.2.1 j) (h2 : ∀ j, j ≠ w.1.length → τ' j = w.2.2 j) (he : xj_cell ad' cA (σ' w.1.length) (τ' w.1.length) sh = e) :
    xj_cw ad' cA (w.1 ++ [sh], σ', τ') = xj_cw ad cA w ++ [(q, e)] := by
  have hn := xj_wok_lt hw
  have e0 : xj_cw ad' cA w = xj_cw ad cA w := xj_cw_ag (by rw [had]; exact xj_ag_up hn) hw
  rw [← e0]
  apply List.ext_getElem?
  intro j
  simp only [xj_cw, List.getElem?_mapIdx, List.getElem?_append, List.length_mapIdx]
  by_cases hj : j < w.1.length
  · simp only [if_pos hj, List.getElem?_mapIdx]
    cases hs : w.1[j]? with
    | none => rfl
    | some q9 => simp only [Option.map_some]; rw [h1 j (by omega), h2 j (by omega)]
  · simp only [if_neg hj]
    by_cases hj2 : j = w.1.length
    · subst hj2
      simp only [Nat.sub_self, List.getElem?_cons_zero, Option.map_some, he]
      rw [had, va_up_self]
    · have hz : ∃ z, j - w.1.length = z + 1 := ⟨j - w.1.length - 1, by omega⟩
      obtain ⟨z, hz⟩ := hz
      rw [hz]
      rfl
end XJ4
end
section
/-! behind a call: what a callee of ours leaves; what holds at every start -/
def xj_Qr (D : va_G) (cl : List vw_C) (cA : FieldType → ClassId) (A : Nat → Prop) (n : Nat) (ad : Nat → Nat) (v : Option Value) (w : xj_W) : Array Value → State → Outcome → State → Prop := fun _ st oc t =>
  ∃ ad', xj_ag n ad ad' ∧ oc = .returned (v.map (xj_cv ad')) ∧ va_P D cl (xj_cw ad' cA w) t.heap ∧ va_D A (xj_cw ad' cA w) ∧ va_F A st t
def xj_XC (D : va_G) (cl : List vw_C) (cA : FieldType → ClassId) (A : Nat → Prop) (E0 : String) (n : Nat) (ad : Nat → Nat) (w : xj_W) : String → State → State → Prop := fun E st t =>
  E = E0 ∧ ∃ ad', xj_ag n ad ad' ∧ va_P D cl (xj_cw ad' cA w) t.heap ∧ va_D A (xj_cw ad' cA w) ∧ va_F A st t
/-- no return -/
def xj_No : Array Value → State → Outcome → State → Prop := fun _ _ _ _ => False
section XJ5
variable {p : Program} {l : Launch} {e : Env} {R : Room} {s : State} {m : MethodId} {args : Array Value} {below : List Frame} {meth : Method} {c : Code} {H : Heap} {locs : List Loc} {cells slots : Nat} {Q : State → Prop}
variable {D : va_G} {cl : List vw_C} {cA : FieldType → ClassId} {A : Nat → Prop} {nL n mc ms pc : Nat} {ad : Nat → Nat} {la : Array Slot} {st0 rest : List Value} {a : Array Value} {w : xj_W}
theorem xj_cont {v : Option Value} (hr : va_Run p l e R s m args below meth c H locs cells slots mc ms (F0 m pc la st0) rest (xj_Qr D cl cA A n ad v w a) A) (hS : va_S A s.heap H locs)
    (kk : ∀ (ad' : Nat → Nat) (H1 : Heap) (locs1 : List Loc), xj_ag n ad ad' → va_P D cl (xj_cw ad' cA w) H1 → va_D A (xj_cw ad' cA w) → va_S A s.heap H1 locs1 → W p l e R s m args below meth c H1 locs1 (cells + mc) (slots + ms) Q (F0 m (pc + 3) la ((v.map (xj_cv ad')).toList ++ rest))) : W p l e R s m args below meth c H locs cells slots Q (F0 m pc la st0) := by
  intro T hT X
  obtain ⟨v9, st₀, t, T', L, h0, X', hL, e1, e2, ⟨ad', hag, hv, hP1, hD1, hz, hk⟩, st⟩ := hr T hT X
  cases hv
  rw [h0] at hz hk
  obtain ⟨t2, a1, b1⟩ := kk ad' T'.heap (locs ++ L) hag (by rw [e1]; exact hP1) hD1
    ⟨Nat.le_trans hS.1 (by rw [e1]; exact hz), fun q h1 h2 => by rw [e1, hk q (Nat.lt_of_lt_of_le h1 hS.1) h2]; exact hS.2.1 q h1 h2, fun q hq => by
      rcases List.mem_append.mp hq with h | h
      · exact hS.2.2 q h
      · exact hL q h⟩ T' rfl X'
  exact ⟨t2, st t2 a1, b1⟩
theorem xj_contX {E0 : String} (hr : vx_Run p l e R s m args below meth c H locs cells slots mc ms (F0 m pc la st0) rest (xj_No a) (xj_XC D cl cA A E0 n ad w) A) (hS : va_S A s.heap H locs)
    (kk : ∀ (ad' : Nat → Nat) (H1 : Heap) (locs1 : List Loc) (ce : Cell) (q9 : Addr), xj_ag n ad ad' → va_P D cl (xj_cw ad' cA w) H1 → va_D A (xj_cw ad' cA w) → va_S A s.heap H1 locs1 → H1[q9]? = some ce → ce.vm = .none → s.vm.findClass E0 = some ce.cls → vx_W p l e R s m args below meth c H1 locs1 (cells + mc) (slots + ms) Q (F0 m pc la rest) q9) : W p l e R s m args below meth c H locs cells slots Q (F0 m pc la st0) := by
  intro T hT X
  rcases hr T hT X with ⟨v, st₀, t, T', L, h0, X', hL, e1, e2, hno, st⟩ | ⟨q, st₀, t, T', L, E, ce, h0, X', hL, e1, e2, ⟨rfl, ad', hag, hP1, hD1, hz, hk⟩, hce, hcv, hcl, st⟩
  · exact hno.elim
  · rw [h0] at hz hk
    obtain ⟨t2, a1, b1⟩ := kk ad' T'.heap (locs ++ L) ce q hag (by rw [e1]; exact hP1) hD1
      ⟨Nat.le_trans hS.1 (by rw [e1]; exact hz), fun q h1 h2 => by rw [e1, hk q (Nat.lt_of_lt_of_le h1 hS.1) h2]; exact hS.2.1 q h1 h2, fun q hq => by
        rcases List.mem_append.mp hq with h | h
        · exact hS.2.2 q h
        · exact hL q h⟩ (by rw [e1]; exact hce) hcv hcl T' rfl X'
    exact ⟨t2, st.trans a1, b1⟩
end XJ5
/-- what holds of the tables and of the cells that were there before all ours -/
def xj_Fx (X : xj_T) (D : va_G) (cl : List vw_C) (cA : FieldType → ClassId) (A : Nat → Prop) (wk : List Jvm.Cond) (stL : List (String × Nat × String)) (ncL : List (String × String)) (ad : Nat → Nat) (U : State) (H : Heap) : Prop :=
  va_K D cl (xj_ty cA) U ∧ (∀ a n f, xj_gv X a = some (n, f) → va_T .int (ad a) n (fun j => .int (f j)) A U H) ∧ va_Z "CaseDesk" "STATE_AFTER" "[I" (.ref (ad 1001)) A U H ∧ (∀ w ∈ wk, va_Nw w U) ∧
  vx_Zq Bundle.tN "UNASSIGNED_STACK" Bundle.steD A U H ∧ vx_Zq Bundle.tN "SUPPRESSED_SENTINEL" Bundle.listD A U H ∧ (∀ q ∈ stL, ∃ sa, vk_R q.1 q.2.1 q.2.2 sa U) ∧ (∀ q ∈ ncL, va_Nc q.1 q.2 U)
/-- words of wk: the tables alone decide them, and warmer tables don't change them -/
def xj_Wk (wk : List Jvm.Cond) : Prop := ∀ w ∈ wk, w.onTables = true ∧ ∀ s U : State, s.WarmedH U.vm → va_Nw w s → va_Nw w U
theorem xj_Fx.go {X : xj_T} {D : va_G} {cl : List vw_C} {cA : FieldType → ClassId} {A : Nat → Prop} {wk : List Jvm.Cond} {stL : List (String × Nat × String)} {ncL : List (String × String)} {ad : Nat → Nat} {s U : State} {H H1 : Heap} (hwk : xj_Wk wk) (h : xj_Fx X D cl cA A wk stL ncL ad s H) (hW : s.WarmedH U.vm) (hq : ∀ a : Nat, a < H.size → ¬ A a → H1[a]? = H[a]?) : xj_Fx X D cl cA A wk stL ncL ad U H1 := by
  obtain ⟨h1, h2, h3, h4, h5, h6, h7, h8⟩ := h
  exact ⟨va_K.moved hW.alike h1, fun a n f hf => va_T.moved hW.alike ((h2 a n f hf).kept hq), va_Z.moved hW.alike (h3.kept hq), fun w hw => (hwk w hw).2 s U hW (h4 w hw), vx_Zq.moved hW.alike (h5.kept hq), vx_Zq.moved hW.alike (h6.kept hq),
    fun q hq' => by obtain ⟨sa, hs⟩ := h7 q hq'; exact ⟨sa, vk_R.warm hW hs⟩, fun q hq' => va_Nc.moved hW.alike (h8 q hq')⟩
theorem xj_Fx.ag {X : xj_T} {D : va_G} {cl : List vw_C} {cA : FieldType → ClassId} {A : Nat → Prop} {wk : List Jvm.Cond} {stL : List (String × Nat × String)} {ncL : List (String × String)} {ad ad' : Nat → Nat} {n : Nat} {s : State} {H : Heap} (hgv : ∀ a n f, xj_gv X a = some (n, f) → 1000 ≤ a ∧ a < 2000) (h : xj_Fx X D cl cA A wk stL ncL ad s H) (hag : xj_ag n ad ad') : xj_Fx X D cl cA A wk stL ncL ad' s H := by
  obtain ⟨h1, h2, h3, h4⟩ := h
  refine ⟨h1, fun a n f hf => ?_, ?_, h4⟩
  · rw [hag a (Or.inr (hgv a n f hf))]; exact h2 a n f hf
  · rw [hag 1001 (Or.inr (by omega))]; exact h3
/-- a callee's start -/
def xj_Pc (X : xj_T) (D : va_G) (cl : List vw_C) (cA : FieldType → ClassId) (sz : Nat) (wk : List Jvm.Cond) (stL : List (String × Nat × String)) (ncL : List (String × String)) (ad : Nat → Nat) (av : List Value) (w : xj_W) : Array Value → State → Prop :=
  va_Pc (av.map (xj_cv ad)) (fun U => xj_Fx X D cl cA (fun q => sz ≤ q) wk stL ncL ad U U.heap ∧ sz ≤ U.heap.size ∧ va_P D cl (xj_cw ad cA w) U.heap ∧ va_D (fun q => sz ≤ q) (xj_cw ad cA w))
theorem xj_Pc.blind {X : xj_T} {D : va_G} {cl : List vw_C} {cA : FieldType → ClassId} {sz : Nat} {wk : List Jvm.Cond} {stL : List (String × Nat × String)} {ncL : List (String × String)} {ad : Nat → Nat} {av : List Value} {w : xj_W} (hwk : xj_Wk wk) : FrameBlind (xj_Pc X D cl cA sz wk stL ncL ad av w) := by
  intro a U g mk h
  obtain ⟨h1, h2, h3⟩ := h
  exact ⟨h1, xj_Fx.go hwk h2 (State.WarmedH.refl U) (fun _ _ _ => rfl), h3⟩
/-- the room of a call at depth d -/
def xj_rm (d c z : Nat) : Room := { frames := d + 9, cells := c, slots := z, locals := 48 * d + 160 }
end
section
/-! what the tables owe, said once for all methods; a call of ours, walked -/
/-- the word on a method's code -/
def xj_wd (X : xj_T) (yN : Nat → MethodName) (bt : Nat → ByteArray) (mx : Nat → Nat) (hh : Nat → List (Nat × Nat × Nat × Nat)) (y : Nat) : Jvm.Cond := if hh y = [] then .code (yN y) (bt y) (mx y) (xj_mt X y).2 else .codeWith (yN y) (bt y) (mx y) (xj_mt X y).2 (hh y)
def xj_ws (X : xj_T) (yN : Nat → MethodName) (bt : Nat → ByteArray) (mx : Nat → Nat) (hh : Nat → List (Nat × Nat × Nat × Nat)) (cm : List Jvm.Cond) (y : Nat) : List Jvm.Cond := xj_wd X yN bt mx hh y :: cm
/-- a call's words -/
def xj_GM (X : xj_T) (yN : Nat → MethodName) (bt : Nat → ByteArray) (mx : Nat → Nat) (hh : Nat → List (Nat × Nat × Nat × Nat)) (cm : List Jvm.Cond) (cl : List vw_C) (wk : List Jvm.Cond) (mi ix kd y k : Nat) : Prop :=
  (plainFor (yN y) = true ∧ (kd ≠ 0 ∨ hh y ≠ [] → plainName (yN y).cls = true)) ∧ mx y ≤ 29 ∧ k + 1 ≤ mx y + (if kd = 0 then 1 else 0) ∧ xj_wd X yN bt mx hh y ∈ cm ∧ Jvm.Cond.initialized (yN y).cls ∈ cm ∧ ((yN y).cls ≠ "java/lang/invoke/MethodHandle" ∧ (yN y).cls ≠ "java/lang/invoke/VarHandle") ∧ (parseMethodDescriptor (yN y).desc).map (fun d => d.parameters.length) = some k ∧
  (kd = 0 → Jvm.Cond.static (yN y) ∈ cm) ∧
  (kd = 1 → hh y = [] ∧ Jvm.Cond.instanceMethod (yN y) ∈ cm ∧ Jvm.Cond.selects (yN y).cls (yN y) (yN y) ∈ cm ∧ ∃ T N, cl[(xj_mt X y).1]? = some ((yN y).cls, T, N)) ∧
  (kd = 2 → hh y = [] ∧ (yN y).name = "<init>" ∧ Jvm.Cond.instanceMethod (yN y) ∈ cm ∧ (xj_mt X y).2 = none) ∧
  (Jvm.Cond.methodLink (yN mi).cls ix (yN y) ∈ cm ∨ (kd ≠ 1 ∧ hh y = [] ∧ ∃ host, Jvm.Cond.methodLinkNest (yN mi).cls ix (yN y) host ∈ wk))
section XJ6
variable {p : Program} {l : Launch} {e : Env} {R : Room} {s : State} {m : MethodId} {args : Array Value} {below : List Frame} {meth : Method} {c : Code} {H : Heap} {locs : List Loc} {cells slots : Nat} {Q : State → Prop}
variable {D : va_G} {cl : List vw_C} {cA : FieldType → ClassId} {sz : Nat} {nL n mc ms pc d : Nat} {ad : Nat → Nat} {la : Array Slot} {rest av : List Value} {a : Array Value} {w w1 : xj_W}
variable {X : xj_T} {yN : Nat → MethodName} {bt : Nat → ByteArray} {mx : Nat → Nat} {hh : Nat → List (Nat × Nat × Nat × Nat)} {cm wk : List Jvm.Cond} {stL : List (String × Nat × String)} {ncL : List (String × String)} {mi ix kd y k : Nat} {cc : ByteArray}
theorem xj_good (hg : cm.all goodWord = true) {u : List Jvm.Cond} (hu : ∀ w ∈ u, w ∈ cm) : GoodIn cm u := fun w hw => ⟨hu w hw, good_of_word (List.all_eq_true.mp hg w (hu w hw))⟩
theorem xj_pre (hwk : xj_Wk wk) (hF : xj_Fx X D cl cA (fun q => sz ≤ q) wk stL ncL ad s s.heap) (hsz : sz ≤ s.heap.size) (hP : va_P D cl (xj_cw ad cA w) H) (hD : va_D (fun q => sz ≤ q) (xj_cw ad cA w)) (hS : va_S (fun q => sz ≤ q) s.heap H locs) : ∀ U : State, U.heap = H → s.WarmedH U.vm → xj_Pc X D cl cA sz wk stL ncL ad av w (av.map (xj_cv ad)).toArray U := by
  intro U hU hW
  refine ⟨rfl, ?_, ?_, ?_, hD⟩
  · rw [hU]
    exact xj_Fx.go hwk hF hW hS.2.1
  · rw [hU]; exact Nat.le_trans hsz hS.1
  · rw [hU]; exact hP
/-- the receiver's class -/
theorem xj_recv (hK : va_K D cl (xj_ty cA) s) (hP : va_P D cl (xj_cw ad cA w) H) {a cj : Nat} {fs : List Value} (hsh : w.1[a]? = some (.inr (cj, fs))) {C : String} {T : u_T} {N : Nat} (hcl : cl[cj]? = some (C, T, N)) : ∃ cellB : Cell, H[ad a]? = some cellB ∧ cellB.vm.isStatics = false ∧ s.vm.findClass C = some cellB.cls := by
  obtain ⟨r, h1, cell, q1, q2, q3, -⟩ := hP a _ (xj_cw_at hsh)
  have hr : r = (C, T, N) := Option.some.inj (h1.symm.trans hcl)
  subst hr
  obtain ⟨-, hfc, -⟩ := hK.1 cj _ hcl
  exact ⟨cell, q1, by rw [q3]; rfl, by rw [q2]; exact hfc⟩
theorem xj_lsum (r : List Value) : ((r.map (xj_cv ad)).map fun v => v.category).sum = (r.map fun v => v.category).sum := by
  rw [List.map_map]
  congr 1
  apply List.map_congr_left
  intro v _
  exact xj_cv_cat ad v
/-- a call that returns -/
theorem xj_ret {v : Option Value} {st : List Value} {i : Instr} {nx : Nat} (hx : p.tables.exec = Jvm.exec) (hb : c.code = cc) (hml : c.maxLocals = nL) (hown : s.vm.findClass (yN mi).cls = some m.cls) (hts : ∀ w ∈ cm, w.before args s = true) (hg : cm.all goodWord = true) (hwk : xj_Wk wk)
    (hF : xj_Fx X D cl cA (fun q => sz ≤ q) wk stL ncL ad s s.heap) (hsz : sz ≤ s.heap.size) (hP : va_P D cl (xj_cw ad cA w) H) (hD : va_D (fun q => sz ≤ q) (xj_cw ad cA w)) (hS : va_S (fun q => sz ≤ q) s.heap H locs) (hla : la.size = nL)
    (hGM : ∀ ix kd y k, xj_ml X mi ix = some (kd, y, k) → kd < 3 → xj_GM X yN bt mx hh cm cl wk mi ix kd y k)
    (hd : xj_dec cc nL pc i nx) (hi : xj_inv X mi i st w = some (kd, y, av, rest))
    (hM : Met l (yN y) (xj_ws X yN bt mx hh cm y) (xj_rm d mc ms) (xj_Pc X D cl cA sz wk stL ncL ad av w) (xj_Qr D cl cA (fun q => sz ≤ q) n ad v w1) mc ms (fun q => sz ≤ q))
    (hRf : d + 10 ≤ R.frames) (hRl : 48 * d + 208 ≤ R.locals) (hRc : cells + mc ≤ R.cells) (hRs : slots + ms ≤ R.slots) :
    va_Run p l e R s m args below meth c H locs cells slots mc ms (F0 m pc la (st.map (xj_cv ad))) (rest.map (xj_cv ad)) (xj_Qr D cl cA (fun q => sz ≤ q) n ad v w1 (av.map (xj_cv ad)).toArray) (fun q => sz ≤ q) ∧ nx = pc + 3 := by
  obtain ⟨len, hdec, hfit⟩ := hd
  have hwin : ∀ {y : Nat}, xj_wd X yN bt mx hh y ∈ cm → ∀ w ∈ xj_ws X yN bt mx hh cm y, w ∈ cm := by
    intro y h w hw
    rcases List.mem_cons.mp hw with rfl | hw
    · exact h
    · exact hw
  have S : CallFix p m c cc nL s args cm (yN mi).cls := ⟨hx, hb, hml, hown, hts⟩
  unfold xj_inv at hi
  split at hi
  · rename_i ix
    split at hi
    · rename_i y' k' hmlk
      split at hi
      · rename_i hcond
        simp only [Option.some.injEq, Prod.mk.injEq] at hi
        obtain ⟨rfl, rfl, rfl, rfl⟩ := hi
        simp only [xj_fit, Bool.and_eq_true, decide_eq_true_eq] at hfit
        obtain ⟨rfl, rfl⟩ := hfit
        obtain ⟨g1, g2, g3, g4, g5, g6, g7, g8, -, -, g11⟩ := hGM _ _ _ _ hmlk (by omega)
        refine ⟨?_, rfl⟩
        have hGood := xj_good hg (hwin g4)
        have hlen : ((st.take k').reverse.map (xj_cv ad)).length = k' := by rw [List.length_map, List.length_reverse, List.length_take]; omega
        have hst : st.map (xj_cv ad) = ((st.take k').reverse.map (xj_cv ad)).reverse ++ (st.drop k').map (xj_cv ad) := by
          rw [← List.map_reverse, List.reverse_reverse, ← List.map_append, List.take_append_drop]
        have hsum := xj_lsum (ad := ad) (st.drop k')
        have hm0 : (F0 m pc la (st.map (xj_cv ad))).monitorRoom = 0 := rfl
        have hW8 : 2 * (F0 m pc la (st.map (xj_cv ad))).monitorRoom + (((st.drop k').map (xj_cv ad)).map fun v => v.category).sum ≤ 8 := by rw [hm0, hsum]; omega
        have hps : PreS s H (xj_Pc X D cl cA sz wk stL ncL ad (st.take k').reverse w) ((st.take k').reverse.map (xj_cv ad)) := ⟨xj_Pc.blind hwk, xj_pre hwk hF hsz hP hD hS⟩
        have hroom : (xj_rm d mc ms).frames + 1 ≤ R.frames ∧ 8 + (mx y' + 11) + (xj_rm d mc ms).locals ≤ R.locals := by
          simp only [xj_rm]; omega
        by_cases hhy : hh y' = []
        · have hwd : xj_ws X yN bt mx hh cm y' = Jvm.Cond.code (yN y') (bt y') (mx y') (xj_mt X y').2 :: cm := by simp only [xj_ws, xj_wd, hhy, if_true]
          rcases g11 with g11 | ⟨-, -, host, g11⟩
          · exact va_runS S hM ⟨callB_of k' hts hGood hwd rfl rfl (hts _ g5) (hts _ g11) ⟨g6.1, g6.2, g7⟩ hroom, hts _ (g8 rfl)⟩ hps rfl hlen hla hst hW8 hdec ⟨hRc, hRs⟩
          · exact va_runSN S hM ⟨va_cnB k' hts hGood hwd rfl rfl (hF.2.2.2.1 _ g11) (hts _ g5) ⟨g6.1, g6.2, g7⟩ hroom, hts _ (g8 rfl), trivial⟩ hps rfl hlen hla hst hW8 hdec ⟨hRc, hRs⟩
        · have hwd : xj_ws X yN bt mx hh cm y' = Jvm.Cond.codeWith (yN y') (bt y') (mx y') (xj_mt X y').2 (hh y') :: cm := by simp only [xj_ws, xj_wd, hhy, if_false]
          rcases g11 with g11 | ⟨-, g11, -⟩
          · refine vx_runSW S hM (vx_cwSW k' hts (xj_good hg ?_) hwd rfl rfl ⟨g6.1, g6.2, g7⟩ hroom) hps rfl hlen hla hst hW8 hdec ⟨hRc, hRs⟩
            intro w hw
            rcases List.mem_append.mp hw with hw | hw
            · simp only [List.mem_cons, List.not_mem_nil, or_false] at hw
              rcases hw with rfl | rfl | rfl
              · exact g11
              · exact g8 rfl
              · exact g5
            · exact hwin g4 w hw
          · exact absurd g11 hhy
      · cases hi
    · cases hi
  · rename_i ix
    split at hi
    · rename_i y' k' hmlk
      split at hi
      · rename_i b r hdrop
        split at hi
        · rename_i cj fs hsh
          split at hi
          · rename_i hcond
            simp only [Option.some.injEq, Prod.mk.injEq] at hi
            obtain ⟨rfl, rfl, rfl, rfl⟩ := hi
            simp only [xj_fit, Bool.and_eq_true, decide_eq_true_eq] at hfit
            obtain ⟨rfl, rfl⟩ := hfit
            obtain ⟨g1, g2, g3, g4, g5, g6, g7, -, g9, -, g11⟩ := hGM _ _ _ _ hmlk (by omega)
            obtain ⟨hhy, gi, gs, T9, N9, gcl⟩ := g9 rfl
            refine ⟨?_, rfl⟩
            have hGood := xj_good hg (hwin g4)
            have hkl : k' < st.length := by
              have h9 : (st.drop k').length = r.length + 1 := by rw [hdrop]; rfl
              rw [List.length_drop] at h9
              omega
            have hlen : ((st.take k').reverse.map (xj_cv ad)).length = k' := by rw [List.length_map, List.length_reverse, List.length_take]; omega
            have hst : st.map (xj_cv ad) = ((st.take k').reverse.map (xj_cv ad)).reverse ++ .ref (ad b) :: r.map (xj_cv ad) := by
              rw [← List.map_reverse, List.reverse_reverse]
              have h9 : (.ref (ad b) :: r.map (xj_cv ad) : List Value) = (st.drop k').map (xj_cv ad) := by rw [hdrop]; rfl
              rw [h9, ← List.map_append, List.take_append_drop]
            have hsum := xj_lsum (ad := ad) r
            have hm0 : (F0 m pc la (st.map (xj_cv ad))).monitorRoom = 0 := rfl
            have hW8 : 2 * (F0 m pc la (st.map (xj_cv ad))).monitorRoom + ((r.map (xj_cv ad)).map fun v => v.category).sum ≤ 8 := by rw [hm0, hsum]; omega
            have hroom : (xj_rm d mc ms).frames + 1 ≤ R.frames ∧ 8 + (mx y' + 11) + (xj_rm d mc ms).locals ≤ R.locals := by
              simp only [xj_rm]; omega
            have hwd : xj_ws X yN bt mx hh cm y' = Jvm.Cond.code (yN y') (bt y') (mx y') (xj_mt X y').2 :: cm := by simp only [xj_ws, xj_wd, hhy, if_true]
            have hpv : PreV s H (yN y').cls (ad b) (xj_Pc X D cl cA sz wk stL ncL ad (.ref b :: (st.take k').reverse) w) ((st.take k').reverse.map (xj_cv ad)) :=
              ⟨xj_Pc.blind hwk, xj_recv hF.1 hP hsh (by rw [hcond.1]; exact gcl), xj_pre hwk hF hsz hP hD hS⟩
            rcases g11 with g11 | ⟨g11, -⟩
            · exact va_runV S hM ⟨callB_of k' hts hGood hwd rfl rfl (hts _ g5) (hts _ g11) ⟨g6.1, g6.2, g7⟩ hroom, hts _ gi, hts _ gs⟩ hpv rfl hlen hla hst hW8 hdec ⟨hRc, hRs⟩
            · exact absurd rfl g11
          · cases hi
        · cases hi
      · cases hi
    · cases hi
  · rename_i ix
    split at hi
    · rename_i y' k' hmlk
      split at hi
      · rename_i b r hdrop
        split at hi
        · rename_i hcond
          simp only [Option.some.injEq, Prod.mk.injEq] at hi
          obtain ⟨rfl, rfl, rfl, rfl⟩ := hi
          simp only [xj_fit, Bool.and_eq_true, decide_eq_true_eq] at hfit
          obtain ⟨rfl, rfl⟩ := hfit
          obtain ⟨g1, g2, g3, g4, g5, g6, g7, -, -, g10, g11⟩ := hGM _ _ _ _ hmlk (by omega)
          obtain ⟨hhy, gn, gi, gr⟩ := g10 rfl
          refine ⟨?_, rfl⟩
          have hGood := xj_good hg (hwin g4)
          have hkl : k' < st.length := by
            have h9 : (st.drop k').length = r.length + 1 := by rw [hdrop]; rfl
            rw [List.length_drop] at h9
            omega
          have hlen : ((st.take k').reverse.map (xj_cv ad)).length = k' := by rw [List.length_map, List.length_reverse, List.length_take]; omega
          have hst : st.map (xj_cv ad) = ((st.take k').reverse.map (xj_cv ad)).reverse ++ .ref (ad b) :: r.map (xj_cv ad) := by
            rw [← List.map_reverse, List.reverse_reverse]
            have h9 : (.ref (ad b) :: r.map (xj_cv ad) : List Value) = (st.drop k').map (xj_cv ad) := by rw [hdrop]; rfl
            rw [h9, ← List.map_append, List.take_append_drop]
          have hsum := xj_lsum (ad := ad) r
          have hm0 : (F0 m pc la (st.map (xj_cv ad))).monitorRoom = 0 := rfl
          have hW8 : 2 * (F0 m pc la (st.map (xj_cv ad))).monitorRoom + ((r.map (xj_cv ad)).map fun v => v.category).sum ≤ 8 := by rw [hm0, hsum]; omega
          have hroom : (xj_rm d mc ms).frames + 1 ≤ R.frames ∧ 8 + (mx y' + 11) + (xj_rm d mc ms).locals ≤ R.locals := by
            simp only [xj_rm]; omega
          have hwd : xj_ws X yN bt mx hh cm y' = Jvm.Cond.code (yN y') (bt y') (mx y') none :: cm := by simp only [xj_ws, xj_wd, hhy, if_true, gr]
          have hps : PreS s H (xj_Pc X D cl cA sz wk stL ncL ad (.ref b :: (st.take k').reverse) w) (.ref (ad b) :: (st.take k').reverse.map (xj_cv ad)) := ⟨xj_Pc.blind hwk, xj_pre hwk hF hsz hP hD hS⟩
          rcases g11 with g11 | ⟨-, -, host, g11⟩
          · exact va_runI S hM ⟨callB_of k' hts hGood hwd rfl rfl (hts _ g5) (hts _ g11) ⟨g6.1, g6.2, g7⟩ hroom, gn, hts _ gi⟩ hps rfl hlen hla hst hW8 hdec ⟨hRc, hRs⟩
          · exact va_runIN S hM ⟨va_cnB k' hts hGood hwd rfl rfl (hF.2.2.2.1 _ g11) (hts _ g5) ⟨g6.1, g6.2, g7⟩ hroom, gn, hts _ gi⟩ hps rfl hlen hla hst hW8 hdec ⟨hRc, hRs⟩
        · cases hi
      · cases hi
    · cases hi
  · cases hi
end XJ6
end
section
/-! a constructor with a message whose own bytes are another: no stack traces -/
section XJP
variable {p : Program} {l : Launch} {e : Env} {R : Room} {s : State} {m : MethodId} {args : Array Value} {below : List Frame} {meth : Method} {c : Code} {W9 : State} {cells slots : Nat}
def xj_atX (own : String) (ic : Nat) (X : String) (ix : Nat) (rx : ByteArray) (names : List String) : List Jvm.Cond := (Bundle.ownAtomsX own ic X ix rx names).filter vx_no
set_option maxHeartbeats 1000000 in
theorem xj_ctX (X : Stand p l e R s m args below meth c W9 [] cells slots) (hexec : p.tables.exec = Jvm.exec) (htr : e.platform.stackTraces = false) {own cls : String} {names : List String} {ic ix : Nat} {rx : ByteArray}
    (x0 : decode rx 0 = .ok (.aload_n 0, 1)) (x1 : decode rx 1 = .ok (.aload_n 1, 1)) (x2 : decode rx 2 = .ok (.invokespecial ix, 3)) (x5 : decode rx 5 = .ok (.return_, 1))
    (hown : s.vm.findClass own = some m.cls) (hcls : Bundle.fit cls = true) (hnames : ∀ n ∈ names, Bundle.fit n = true)
    (h : ∀ w ∈ Bundle.ownAtomsX own ic cls ix rx names, w.before args s = true)
    {a : Addr} {cX : ClassId} {kX : Class} (hfX : s.vm.findClass cls = some cX) (hkX : s.vm.classes[cX]? = some kX) (hcell : W9.heap[a]? = some (freshCell cX kX)) (hnew : s.heap.size ≤ a)
    {msg : Value} (hmsg : msg.isRef = true) {g : JFrame} (hg : g.method = m) (hsize : g.locals.size = c.maxLocals) (hlk : g.locked = none) (hen : g.entered = []) {rest : List Value} (hst : g.stack = msg :: .ref a :: .ref a :: rest)
    (d6 : decode c.code g.pc = .ok (.invokespecial ic, 3)) (d9 : decode c.code (g.pc + 3) = .ok (.athrow, 1)) (hout : ∀ x ∈ c.exceptionTable.toList, covers x (g.pc + 3) = false)
    (hRf : names.length + 3 < R.frames) (hRl : 2 * g.monitorRoom + ((Value.ref a :: rest).map fun v => v.category).sum + (13 * (names.length + 1) + 42) ≤ R.locals) (hlocks : meth.locks = false) :
    ∃ U : State, Steps p.tables e below (W9.setTop g) U ∧ U.status = .running ∧ Ended U below (.threw a) ∧ s.WarmedH U.vm ∧ s.sameButNew ({ U with vm := s.vm } : State) [] cells slots ∧
      ∃ ce, U.heap[a]? = some ce ∧ s.vm.findClass cls = some ce.cls ∧ ce.vm = .none := by
  have q1 : e.platform.frameOwnsMonitors = true := by rw [X.admits.platform]
  have q2 : e.platform.finalization = false := by rw [X.admits.platform]
  have q3 : e.platform.magicAccessors = ({} : Platform).magicAccessors := by rw [X.admits.platform]
  have hh : ∀ w, w ∈ Bundle.ownAtomsX own ic cls ix rx names → w.holds args s none s [] = true := fun w hw => h w hw
  obtain ⟨T, Z0, L, -, Y⟩ := ThrowableC.of_atoms (args := args) q1 q2 q3 (fun w hw => h w (by simp [Bundle.ownAtomsX, hw]))
  obtain ⟨Z, M, LZ, LM, hnZ⟩ := Init0T.ofS_atoms (args := args) q3 L Y (fun w hw => h w (by simp [Bundle.ownAtomsX, hw]))
  obtain ⟨P1, Ps, hlen, L1, hL, hPm, hk1, hk2⟩ := Bundle.chainSX (args := args) q3 hnZ x0 x1 x2 x5 names cls hcls hnames (fun w hw => h w (by simp [Bundle.ownAtomsX, hw]))
  have hfd : s.vm.findClass cls = some P1.m.cls := findClass_of_methodNamed hPm
  obtain rfl := Option.some.inj (hfX.symm.trans hfd)
  obtain ⟨c1, k1, hc1, hk, hord, -, -, -⟩ := Cond.instantiable_spec (hh (.instantiable cls 6) (by simp [Bundle.ownAtomsX]))
  obtain rfl := Option.some.inj (hc1.symm.trans hfd)
  obtain rfl := Option.some.inj (hkX.symm.trans hk)
  have hs0 : selectMethod e.platform s.vm P1.m.cls T.fill0 = .method T.fill0 := by
    obtain ⟨c2, r2, m2, r1, r2', r3, r4, -⟩ := Cond.selects_spec (hh (.selects cls Bundle.tFill0 Bundle.tFill0) (by simp [Bundle.ownAtomsX]))
    obtain rfl := Option.some.inj (r1.symm.trans hfd)
    obtain rfl := Option.some.inj (r2'.symm.trans (State.methodFound?_of_named Y.fill0 (by decide)))
    obtain rfl := Option.some.inj (r3.symm.trans Y.fill0)
    rw [Launch.admits_selectMethod X.admits]
    exact r4
  have hsF : selectMethod e.platform s.vm P1.m.cls T.fill = .method T.fill := by
    obtain ⟨c2, r2, m2, r1, r2', r3, r4, -⟩ := Cond.selects_spec (hh (.selects cls Bundle.tFill Bundle.tFill) (by simp [Bundle.ownAtomsX]))
    obtain rfl := Option.some.inj (r1.symm.trans hfd)
    obtain rfl := Option.some.inj (r2'.symm.trans (State.methodFound?_of_named Y.fill (by decide)))
    obtain rfl := Option.some.inj (r3.symm.trans Y.fill)
    rw [Launch.admits_selectMethod X.admits]
    exact r4
  obtain ⟨z0, hz0, hzs⟩ := Y.statics
  obtain ⟨u0, hu0⟩ := Cond.staticRefV Y.unassigned L.unassignedStatic L.statics hz0 hzs (hh (.isRef (.static Bundle.tN "UNASSIGNED_STACK" Bundle.steD)) (by simp [Bundle.ownAtomsX]))
  obtain ⟨un, hun⟩ := Cond.staticRefV Y.sentinel L.sentinelStatic L.statics hz0 hzs (hh (.isRef (.static Bundle.tN "SUPPRESSED_SENTINEL" Bundle.listD)) (by simp [Bundle.ownAtomsX]))
  obtain ⟨ci, i9, fB, b1, b2, b3, b4, -, b5, b6, b7⟩ := Cond.ownField (t := .object "java/lang/Object") Y.found L.cls (by decide +kernel) (hh (.fieldLink Bundle.tN 198 Bundle.tN "backtrace" "Ljava/lang/Object;") (by simp [Bundle.ownAtomsX])) (hh (.lays Bundle.tN Bundle.tN "backtrace" "Ljava/lang/Object;") (by simp [Bundle.ownAtomsX])) e.platform q3
  obtain ⟨z1, hz1, hze, -, hkp⟩ := X.same.2.2.2.2.2 T.aS z0 hz0
  have hzW : W9.heap[T.aS]? = some z1 := hz1
  have hno : ∀ i, (⟨T.aS, i⟩ : Loc) ∉ ([] : List Loc) := fun i hm => nomatch hm
  have hzk : z1.vm ≠ .unknown := by
    rw [hze]
    intro hu
    rw [show z0.vm = .unknown from hu] at hzs
    cases hzs
  have hne : T.aS ≠ a := Nat.ne_of_lt (Nat.lt_of_lt_of_le (Array.getElem?_eq_some_iff.mp hz0).1 hnew)
  obtain ⟨iM, hM⟩ := Y.msg
  obtain ⟨tC, dC, eC, nC⟩ := Cond.laysAt hfd hk Y.cause (hh (.lays cls Bundle.tN "cause" "Ljava/lang/Throwable;") (by simp [Bundle.ownAtomsX]))
  obtain ⟨tS, dS, eS, nS⟩ := Cond.laysAt hfd hk Y.stack (hh (.lays cls Bundle.tN "stackTrace" Bundle.steD) (by simp [Bundle.ownAtomsX]))
  obtain ⟨tP, dP, eP, nP⟩ := Cond.laysAt hfd hk Y.supp (hh (.lays cls Bundle.tN "suppressedExceptions" Bundle.listD) (by simp [Bundle.ownAtomsX]))
  obtain ⟨tM, dM, eM, nM⟩ := Cond.laysAt hfd hk hM (hh (.lays cls Bundle.tN "detailMessage" "Ljava/lang/String;") (by simp [Bundle.ownAtomsX]))
  obtain ⟨tB, dB, eB, nB⟩ := Cond.laysAt hfd hk b7 (hh (.lays cls Bundle.tN "backtrace" "Ljava/lang/Object;") (by simp [Bundle.ownAtomsX]))
  have aC := Cond.laysApart eB eC nB nC (by rw [b5, Y.causeName]; decide)
  have aS := Cond.laysApart eB eS nB nS (by rw [b5, Y.stackName]; decide)
  have aP := Cond.laysApart eB eP nB nP (by rw [b5, Y.suppName]; decide)
  have hskip : SkipFacts T e.platform s (fun u => u) u0 ((preparedCellV T.toThrowableT (freshCell P1.m.cls kX) a u0 un).withEntry W9.cur) :=
    ⟨{ ci198 := ci, i198 := i9, fBack := fB }, ⟨b1, b2, b3, b4⟩, by
      have h9 := fresh_default (c := P1.m.cls) tB
      rw [b6] at h9
      simpa [preparedCellV, Cell.setSlot, Cell.withEntry, Array.getElem?_setIfInBounds, aC, aS, aP, aC.symm, aS.symm, aP.symm, defaultValue] using h9, fun _ _ => rfl⟩
  obtain ⟨tm, methC, cdC, kC, vm1, hnC, -, -, -, -, -, -, -, hW1, st1⟩ := Steps.initColdS (tb := p.tables) (e := e) (below := below) (s := s) (U := W9) X.here hexec X.warmed q3 hown (t := Bundle.initS cls) rfl rfl (Bundle.fit_spec hcls).2
    (hh (.methodLink own ic (Bundle.initS cls)) (by simp [Bundle.ownAtomsX])) (h (.instanceMethod (Bundle.initS cls)) (by cases names <;> simp [Bundle.ownAtomsX, Bundle.chainSAtomsX, Bundle.passSAtoms])) (bytes := rx) (maxL := 2) (h (.code (Bundle.initS cls) rx 2 none) (by cases names <;> simp [Bundle.ownAtomsX, Bundle.chainSAtomsX, Bundle.passSAtoms]))
    (f := g) hg (a := a) (msg := msg) (rest := .ref a :: rest) hst d6
  obtain rfl := Option.some.inj (hnC.symm.trans hPm)
  have X1 := X.noted hW1
  obtain ⟨vm2, X2, st2⟩ := X1.ctorMessageOffV hexec (g := { g with stack := .ref a :: rest }) hg hsize T L Z LZ M LM (P1 :: Ps)
    (fun P hP => by rcases List.mem_cons.mp hP with rfl | hP; exact L1; exact hL P hP) ⟨hk1, hk2⟩ (u0 := u0) (sen := un) (self := a) hmsg (cell := freshCell P1.m.cls kX) (cellS := z1)
    hcell (fun _ => by simp) (by simp) rfl rfl hs0 hsF hzW hne hzk (by rw [hkp _ (hno _)]; exact hu0) (by rw [hkp _ (hno _)]; exact hun)
    (Takes.of_laid hk hord tC (by rw [Y.causeType]; rfl)) (Takes.of_laid hk hord tS (by rw [Y.stackType]; exact fits_refV_array _ u0)) (Takes.of_laid hk hord tP (by rw [Y.suppType]; exact fits_refV_object _ un))
    (Takes.of_laid hk hord tM (by rw [Y.msgType]; exact fits_refV_object _ ⟨msg, hmsg⟩)) Y.objLocals hskip htr [] d6
    (by simp only [List.length_cons, hlen]; omega) (by simp only [List.length_cons, hlen]; exact hRl)
  obtain ⟨hwalk, hrun, hend, hWU, hsame⟩ := X2.athrowLeaves hexec (g := { g with stack := .ref a :: rest, pc := g.pc + 3 }) hg hlk hen hout (a := a) (rest := rest) rfl d9
  have hlt : a < ((W9.setVm vm1).setVm vm2).heap.size := (Array.getElem?_eq_some_iff.mp hcell).1
  have hU := heapAt_setCell_self (s := (W9.setVm vm1).setVm vm2) (plainBareV T.toThrowableT (freshCell P1.m.cls kX) a u0 un msg) hlt
  refine ⟨_, st1 _ (fun acts => ?_), hrun, hend, hWU, hsame.weaken (fun y hy hlt' => ?_) (Nat.le_refl _) (Nat.le_refl _), _, hU, hfd, rfl⟩
  · rw [doInvoke_state]
    exact st2 _ hwalk
  · rcases List.mem_append.mp hy with h1 | h1
    · exact h1
    · exfalso
      have hb : y.base = a := by
        simp only [List.mem_cons, List.not_mem_nil, or_false] at h1
        rcases h1 with rfl | rfl | rfl | rfl | rfl <;> rfl
      rw [hb] at hlt'
      exact Nat.not_lt.mpr hnew hlt'
end XJP
section XJQ
variable {p : Program} {l : Launch} {e : Env} {R : Room} {s : State} {m : MethodId} {args : Array Value} {below : List Frame} {meth : Method} {c : Code} {H : Heap} {locs : List Loc} {cells slots : Nat} {ls : Array Slot} {rest : List Value}
variable {Qc : Array Value → State → Outcome → State → Prop} {XC : String → State → State → Prop} {free : Addr → Prop}
/-- new, dup, ldc, the constructor, athrow: the made thing is thrown and nothing else is touched -/
theorem xj_throwX {cc : ByteArray} {pc : Nat} (hexec : p.tables.exec = Jvm.exec) (hb : c.code = cc) (hl : l.stackTraces = false) {own cls text : String} {names : List String} {ik is ic ix mc ms sa : Nat} {rx : ByteArray} {A : Nat → Prop}
    (x0 : decode rx 0 = .ok (.aload_n 0, 1)) (x1 : decode rx 1 = .ok (.aload_n 1, 1)) (x2 : decode rx 2 = .ok (.invokespecial ix, 3)) (x5 : decode rx 5 = .ok (.return_, 1))
    (hown : s.vm.findClass own = some m.cls) (hcls : Bundle.fit cls = true) (hnames : ∀ n ∈ names, Bundle.fit n = true)
    (hk : (Cond.classLink own ik cls).before args s = true) (hini : (Cond.initialized cls).before args s = true) (hstr : vk_R own is text sa s) (hat : ∀ w ∈ xj_atX own ic cls ix rx names, w.before args s = true)
    (hgood : ∀ w ∈ Cond.classLink own ik cls :: Cond.initialized cls :: xj_atX own ic cls ix rx names, vx_ot w = true)
    (hU : vx_Zq Bundle.tN "UNASSIGNED_STACK" Bundle.steD A s s.heap) (hN : vx_Zq Bundle.tN "SUPPRESSED_SENTINEL" Bundle.listD A s s.heap) (hS : va_S A s.heap H locs) (hsize : ls.size = c.maxLocals)
    (d0 : decode cc pc = .ok (.new ik, 3)) (d3 : decode cc (pc + 3) = .ok (.dup, 1)) (d4 : decode cc (pc + 4) = .ok (.ldc is, 2)) (d6 : decode cc (pc + 6) = .ok (.invokespecial ic, 3)) (d9 : decode cc (pc + 9) = .ok (.athrow, 1))
    (hout : ∀ x ∈ c.exceptionTable.toList, covers x (pc + 9) = false)
    (hRf : names.length + 3 < R.frames) (hRl : (rest.map fun v => v.category).sum + (13 * (names.length + 1) + 43) ≤ R.locals) (hRc : cells + 1 ≤ R.cells) (hRs : slots + 6 ≤ R.slots) (hlocks : meth.locks = false)
    (hx : ∀ t : State, s.vm.Alike t.vm → H.size ≤ t.heap.size → (∀ q : Nat, q < H.size → t.heap[q]? = H[q]?) → XC cls s t)
    (hf : ∀ z ∈ locs, free z.base) (hc : cells + 1 ≤ mc) (hs : slots + 6 ≤ ms) :
    W p l e R s m args below meth c H locs cells slots (vx_MQ below Qc XC args s mc ms free) (F0 m pc ls rest) := by
  intro T hT X
  have htr : e.platform.stackTraces = false := (show e.platform.stackTraces = l.stackTraces by rw [X.admits.platform]).trans hl
  have Y := vx_rebase X (R' := { frames := R.frames, locals := R.locals, cells := 1, slots := 6 }) (Nat.le_refl _) (Nat.le_refl _) hRc hRs
  obtain ⟨t, ht⟩ : ∃ z, z = (T.setVm s.vm).setFrames (.invoking m args :: below) := ⟨_, rfl⟩
  rw [← ht] at Y
  have v1 : t.vm = s.vm := by rw [ht]; rfl
  have v2 : t.heap = H := by rw [ht]; exact hT
  have v3 : s.WarmedH t.vm := by rw [v1]; exact State.WarmedH.refl s
  have u1 : vx_Zq Bundle.tN "UNASSIGNED_STACK" Bundle.steD A t t.heap := by rw [v2]; exact vx_Zq.moved v3.alike (hU.kept hS.2.1)
  have u2 : vx_Zq Bundle.tN "SUPPRESSED_SENTINEL" Bundle.listD A t t.heap := by rw [v2]; exact vx_Zq.moved v3.alike (hN.kept hS.2.1)
  have ha : ∀ w ∈ Bundle.ownAtomsX own ic cls ix rx names, w.before args t = true :=
    vx_own (fun w hw => vx_ot_at v3 v1.symm (hgood w (List.mem_cons_of_mem _ (List.mem_cons_of_mem _ hw))) (hat w hw)) (vx_isRefq u1.1) (vx_isRefq u2.1) u1.2.word u2.2.word
  have ho : t.vm.findClass own = some m.cls := by rw [v1]; exact hown
  obtain ⟨vm1, cX, kX, hfX, hkX, -, -, X1, st1⟩ := Y.newCold hexec (own := own) (C := cls) (index := ik) (n := 6) ho (vx_ot_at v3 v1.symm (hgood _ List.mem_cons_self) hk) (ha _ (by simp [Bundle.ownAtomsX])) (vx_ot_at v3 v1.symm (hgood _ (List.mem_cons_of_mem _ List.mem_cons_self)) hini)
    (g := F0 m pc ls rest) rfl (by rw [hb]; exact d0) (Nat.le_refl _) (Nat.le_refl _)
  generalize hT1 : (T.setVm vm1).pushCell { cls := cX, slots := kX.instanceTypes.map defaultValue, vm := .none } = T1 at X1 st1
  have hcat : (Value.ref T.heap.size).category = 1 := rfl
  have hce : T1.heap[T.heap.size]? = some (freshCell cX kX) := by rw [← hT1]; exact State.heap_pushCell_size _ _
  have d3' : decode c.code (pc + 3) = .ok (.dup, 1) := by rw [hb]; exact d3
  have hst : vk_R own is text sa t := vk_R.warm v3 hstr
  obtain ⟨U, hsteps, hrun, hend, hW, hsame, ce, hU9, hcl, hvm9⟩ := xj_ctX X1 hexec htr x0 x1 x2 x5 (own := own) (cls := cls) (names := names) (ic := ic) ho hcls hnames ha hfX hkX hce (by rw [v2, hT]; exact Nat.le_refl _) (msg := .ref sa) rfl
    (g := { method := m, pc := pc + 6, locals := ls, stack := .ref sa :: .ref T.heap.size :: .ref T.heap.size :: rest, locked := none }) rfl hsize rfl rfl (rest := rest) rfl
    (by rw [hb]; exact d6) (by rw [hb]; exact d9) hout hRf (by simp only [List.map_cons, List.sum_cons, hcat]; omega) hlocks
  obtain ⟨f1, f2⟩ := vx_frame hsame
  rw [v2] at f1 f2
  rw [v1] at hcl
  have hWs : s.WarmedH U.vm := State.WarmedH.trans v3 hW
  have hall : s.sameButNew ({ U with vm := s.vm } : State) locs mc ms := by
    subst ht
    obtain ⟨e1, e2⟩ := hsame
    rw [State.setFrames_setFrames] at e1
    have h2 : (T.setVm s.vm).sameButNew ({ U with vm := s.vm } : State) [] (0 + 1) (0 + 6) := ⟨e1, e2⟩
    have h3 := X.same.trans h2
    rw [List.append_nil] at h3
    exact h3.mono hc hs
  refine ⟨U, ?_, .threw T.heap.size, hrun, hend, Or.inr ⟨T.heap.size, rfl, cls, ce, locs, hx U hWs.alike f1 (fun q hq => f2 q hq (fun z hz => nomatch hz)), hU9, hvm9, hcl, hWs, hall, hf⟩⟩
  refine st1 _ ?_
  show Steps p.tables e below (T1.setTop { method := m, pc := pc + 3, locals := ls, stack := .ref T.heap.size :: rest, locked := none }) _
  jvm_step X1.here [X1.here.top, hexec, d3', Value.category]
  exact X1.ldcString hexec (own := own) (text := text) (index := is) (a := sa) ho hst.1 hst.2
    (g := { method := m, pc := pc + 4, locals := ls, stack := .ref T.heap.size :: .ref T.heap.size :: rest, locked := none }) rfl (by rw [hb]; exact d4) _ hsteps
end XJQ
end
section
/-! calls that throw, throws, catches, new cells -/
section XJ7
variable {p : Program} {l : Launch} {e : Env} {R : Room} {s : State} {m : MethodId} {args : Array Value} {below : List Frame} {meth : Method} {c : Code} {H : Heap} {locs : List Loc} {cells slots : Nat} {Q : State → Prop}
variable {D : va_G} {cl : List vw_C} {cA : FieldType → ClassId} {sz : Nat} {nL n mc ms pc d : Nat} {ad : Nat → Nat} {la : Array Slot} {rest av : List Value} {a : Array Value} {w w1 : xj_W}
variable {X : xj_T} {yN : Nat → MethodName} {bt : Nat → ByteArray} {mx : Nat → Nat} {hh : Nat → List (Nat × Nat × Nat × Nat)} {cm wk : List Jvm.Cond} {stL : List (String × Nat × String)} {ncL : List (String × String)} {mi ix kd y k : Nat} {cc : ByteArray}
theorem xj_retX {E0 : String} {st : List Value} {i : Instr} {nx : Nat} (hx : p.tables.exec = Jvm.exec) (hb : c.code = cc) (hml : c.maxLocals = nL) (hown : s.vm.findClass (yN mi).cls = some m.cls) (hts : ∀ w ∈ cm, w.before args s = true) (hg : cm.all goodWord = true) (hwk : xj_Wk wk)
    (hF : xj_Fx X D cl cA (fun q => sz ≤ q) wk stL ncL ad s s.heap) (hsz : sz ≤ s.heap.size) (hP : va_P D cl (xj_cw ad cA w) H) (hD : va_D (fun q => sz ≤ q) (xj_cw ad cA w)) (hS : va_S (fun q => sz ≤ q) s.heap H locs) (hla : la.size = nL)
    (hGM : ∀ ix kd y k, xj_ml X mi ix = some (kd, y, k) → kd < 3 → xj_GM X yN bt mx hh cm cl wk mi ix kd y k)
    (hd : xj_dec cc nL pc i nx) (hi : xj_inv X mi i st w = some (1, y, av, rest))
    (hM : vx_Met l (yN y) (xj_ws X yN bt mx hh cm y) (xj_rm d mc ms) (xj_Pc X D cl cA sz wk stL ncL ad av w) xj_No (xj_XC D cl cA (fun q => sz ≤ q) E0 n ad w1) mc ms (fun q => sz ≤ q))
    (hRf : d + 10 ≤ R.frames) (hRl : 48 * d + 208 ≤ R.locals) (hRc : cells + mc ≤ R.cells) (hRs : slots + ms ≤ R.slots) :
    vx_Run p l e R s m args below meth c H locs cells slots mc ms (F0 m pc la (st.map (xj_cv ad))) (rest.map (xj_cv ad)) (xj_No (av.map (xj_cv ad)).toArray) (xj_XC D cl cA (fun q => sz ≤ q) E0 n ad w1) (fun q => sz ≤ q) := by
  obtain ⟨len, hdec, hfit⟩ := hd
  have hwin : ∀ {y : Nat}, xj_wd X yN bt mx hh y ∈ cm → ∀ w ∈ xj_ws X yN bt mx hh cm y, w ∈ cm := by
    intro y h w hw
    rcases List.mem_cons.mp hw with rfl | hw
    · exact h
    · exact hw
  have S : CallFix p m c cc nL s args cm (yN mi).cls := ⟨hx, hb, hml, hown, hts⟩
  unfold xj_inv at hi
  split at hi
  · split at hi
    · split at hi
      · simp only [Option.some.injEq, Prod.mk.injEq] at hi
        exact absurd hi.1 (by decide)
      · cases hi
    · cases hi
  · rename_i ix
    split at hi
    · rename_i y' k' hmlk
      split at hi
      · rename_i b r hdrop
        split at hi
        · rename_i cj fs hsh
          split at hi
          · rename_i hcond
            simp only [Option.some.injEq, Prod.mk.injEq] at hi
            obtain ⟨-, rfl, rfl, rfl⟩ := hi
            simp only [xj_fit, Bool.and_eq_true, decide_eq_true_eq] at hfit
            obtain ⟨rfl, rfl⟩ := hfit
            obtain ⟨g1, g2, g3, g4, g5, g6, g7, -, g9, -, g11⟩ := hGM _ _ _ _ hmlk (by omega)
            obtain ⟨hhy, gi, gs, T9, N9, gcl⟩ := g9 rfl
            have hGood := xj_good hg (hwin g4)
            have hkl : k' < st.length := by
              have h9 : (st.drop k').length = r.length + 1 := by rw [hdrop]; rfl
              rw [List.length_drop] at h9
              omega
            have hlen : ((st.take k').reverse.map (xj_cv ad)).length = k' := by rw [List.length_map, List.length_reverse, List.length_take]; omega
            have hst : st.map (xj_cv ad) = ((st.take k').reverse.map (xj_cv ad)).reverse ++ .ref (ad b) :: r.map (xj_cv ad) := by
              rw [← List.map_reverse, List.reverse_reverse]
              have h9 : (.ref (ad b) :: r.map (xj_cv ad) : List Value) = (st.drop k').map (xj_cv ad) := by rw [hdrop]; rfl
              rw [h9, ← List.map_append, List.take_append_drop]
            have hsum := xj_lsum (ad := ad) r
            have hm0 : (F0 m pc la (st.map (xj_cv ad))).monitorRoom = 0 := rfl
            have hW8 : 2 * (F0 m pc la (st.map (xj_cv ad))).monitorRoom + ((r.map (xj_cv ad)).map fun v => v.category).sum ≤ 8 := by rw [hm0, hsum]; omega
            have hroom : (xj_rm d mc ms).frames + 1 ≤ R.frames ∧ 8 + (mx y' + 11) + (xj_rm d mc ms).locals ≤ R.locals := by
              simp only [xj_rm]; omega
            have hwd : xj_ws X yN bt mx hh cm y' = Jvm.Cond.code (yN y') (bt y') (mx y') (xj_mt X y').2 :: cm := by simp only [xj_ws, xj_wd, hhy, if_true]
            have hpv : PreV s H (yN y').cls (ad b) (xj_Pc X D cl cA sz wk stL ncL ad (.ref b :: (st.take k').reverse) w) ((st.take k').reverse.map (xj_cv ad)) :=
              ⟨xj_Pc.blind hwk, xj_recv hF.1 hP hsh (by rw [hcond.1]; exact gcl), xj_pre hwk hF hsz hP hD hS⟩
            rcases g11 with g11 | ⟨g11, -⟩
            · exact vx_runV S hM ⟨callB_of k' hts hGood hwd rfl rfl (hts _ g5) (hts _ g11) ⟨g6.1, g6.2, g7⟩ hroom, hts _ gi, hts _ gs⟩ hpv rfl hlen hla hst hW8 hdec ⟨hRc, hRs⟩
            · exact absurd rfl g11
          · cases hi
        · cases hi
      · cases hi
    · cases hi
  · split at hi
    · split at hi
      · split at hi
        · simp only [Option.some.injEq, Prod.mk.injEq] at hi
          exact absurd hi.1 (by decide)
        · cases hi
      · cases hi
    · cases hi
  · cases hi
/-- a throw's words -/
def xj_GT (yN : Nat → MethodName) (bt : Nat → ByteArray) (hh : Nat → List (Nat × Nat × Nat × Nat)) (cm wk : List Jvm.Cond) (stL : List (String × Nat × String)) (ex : Nat → String × List String) (mi pc q : Nat) : Prop :=
  ∃ (ik is ic ix : Nat) (rx : ByteArray) (text : String), decode rx 0 = .ok (.aload_n 0, 1) ∧ decode rx 1 = .ok (.aload_n 1, 1) ∧ decode rx 2 = .ok (.invokespecial ix, 3) ∧ decode rx 5 = .ok (.return_, 1) ∧ hh mi = [] ∧ decode (bt mi) pc = .ok (.new ik, 3) ∧ decode (bt mi) (pc + 3) = .ok (.dup, 1) ∧ decode (bt mi) (pc + 4) = .ok (.ldc is, 2) ∧ decode (bt mi) (pc + 6) = .ok (.invokespecial ic, 3) ∧ decode (bt mi) (pc + 9) = .ok (.athrow, 1) ∧
    Bundle.fit (ex q).1 = true ∧ (∀ n ∈ (ex q).2, Bundle.fit n = true) ∧ (ex q).2.length ≤ 4 ∧ Jvm.Cond.classLink (yN mi).cls ik (ex q).1 ∈ cm ∧ Jvm.Cond.initialized (ex q).1 ∈ cm ∧ ((yN mi).cls, is, text) ∈ stL ∧
    (∀ w ∈ xj_atX (yN mi).cls ic (ex q).1 ix rx (ex q).2, w ∈ cm ∨ w ∈ wk) ∧ (∀ w ∈ Jvm.Cond.classLink (yN mi).cls ik (ex q).1 :: Jvm.Cond.initialized (ex q).1 :: xj_atX (yN mi).cls ic (ex q).1 ix rx (ex q).2, vx_ot w = true)
theorem xj_thw {ex : Nat → String × List String} {q n0 : Nat} {ad0 : Nat → Nat} (hx : p.tables.exec = Jvm.exec) (hb : c.code = bt mi) (hml : c.maxLocals = nL) (hlocks : meth.locks = false) (hown : s.vm.findClass (yN mi).cls = some m.cls) (hts : ∀ w ∈ cm, w.before args s = true) (hwk : xj_Wk wk) (hl : l.stackTraces = false) (htab : hh mi = [] → c.exceptionTable.toList = [])
    (hF : xj_Fx X D cl cA (fun q => sz ≤ q) wk stL ncL ad s s.heap) (hP : va_P D cl (xj_cw ad cA w) H) (hD : va_D (fun q => sz ≤ q) (xj_cw ad cA w)) (hS : va_S (fun q => sz ≤ q) s.heap H locs) (hla : la.size = nL) (hag : xj_ag n0 ad0 ad)
    (hGT : xj_GT yN bt hh cm wk stL ex mi pc q) (hRf : 9 ≤ R.frames) (hRl : 160 ≤ R.locals) (hRc : cells + 1 ≤ R.cells) (hRs : slots + 6 ≤ R.slots) :
    W p l e R s m args below meth c H locs cells slots (vx_MQ below xj_No (xj_XC D cl cA (fun q => sz ≤ q) (ex q).1 n0 ad0 w) args s (cells + 1) (slots + 6) (fun q => sz ≤ q)) (F0 m pc la []) := by
  obtain ⟨ik, is, ic, ix, rx, text, x0, x1, x2, x5, hhm, d0, d3, d4, d6, d9, f1, f2, f3, w1, w2, w3, w4, w5⟩ := hGT
  obtain ⟨sa, hsa⟩ := hF.2.2.2.2.2.2.1 _ w3
  refine xj_throwX hx hb hl x0 x1 x2 x5 hown f1 f2 (hts _ w1) (hts _ w2) hsa (fun w hw => ?_) w5 hF.2.2.2.2.1 hF.2.2.2.2.2.1 hS (hla.trans hml.symm) d0 d3 d4 d6 d9 (fun x hx9 => by rw [htab hhm] at hx9; cases hx9) (by omega) (by simp only [List.map_nil, List.sum_nil]; omega) hRc hRs hlocks ?_ hS.2.2 (Nat.le_refl _) (Nat.le_refl _)
  · rcases w4 w hw with h | h
    · exact hts _ h
    · exact va_Nw.use (hwk w h).1 (hF.2.2.2.1 w h)
  · intro t hvm hsz9 hk9
    refine ⟨rfl, ad, hag, ?_, hD, ?_⟩
    · exact hP.kept fun k q9 hq9 => hk9 _ (hP k q9 hq9).lt
    · exact ⟨Nat.le_trans hS.1 hsz9, fun q9 h1 h2 => by rw [hk9 q9 (Nat.lt_of_lt_of_le h1 hS.1)]; exact hS.2.1 q9 h1 h2⟩
end XJ7
end
section
/-! new cells; catches -/
/-- the words of a 'new' -/
def xj_GN (X : xj_T) (yN : Nat → MethodName) (cm : List Jvm.Cond) (cl : List vw_C) (mi ix ci : Nat) (fs : List Value) : Prop :=
  ∃ (C : String) (T : u_T) (N : Nat) (ty0 : Nat → FieldType) (gs : List Value), cl[ci]? = some (C, T, N) ∧ (∀ w ∈ u_ws C T N, w ∈ cm) ∧ (∀ k, k < N → parseFieldDescriptor (T k).2.2.1 = some (ty0 k)) ∧ Jvm.Cond.classLink (yN mi).cls ix C ∈ cm ∧ Jvm.Cond.instantiable C N ∈ cm ∧ Jvm.Cond.initialized C ∈ cm ∧ fs.length = N ∧
    (∀ ad', fs.mapIdx (xj_fv ad' (fun _ => 0)) = gs) ∧ ∀ j, j < N → defaultValue (ty0 j) = vp_V gs j
def xj_nxt (w : xj_W) (sh : xj_S) : xj_W := (w.1 ++ [sh], xj_setA w.2.1 w.1.length (fun _ => 0), fun j => if j = w.1.length then (fun _ => 0) else w.2.2 j)
section XJ8
variable {p : Program} {l : Launch} {e : Env} {R : Room} {s : State} {m : MethodId} {args : Array Value} {below : List Frame} {meth : Method} {c : Code} {H : Heap} {locs : List Loc} {cells slots : Nat} {Q : State → Prop}
variable {D : va_G} {cl : List vw_C} {cA : FieldType → ClassId} {A : Nat → Prop} {nL n mc ms pc d : Nat} {ad : Nat → Nat} {la : Array Slot} {rest st : List Value} {ls : List (Nat × Value)} {w : xj_W}
variable {X : xj_T} {yN : Nat → MethodName} {cm wk : List Jvm.Cond} {mi : Nat} {cc : ByteArray}
theorem xj_nxt_ne (w : xj_W) {j : Nat} (h : j ≠ w.1.length) : (fun j => if j = w.1.length then (fun _ => 0) else w.2.2 j : Nat → Nat → Int64) j = w.2.2 j := if_neg h
theorem xj_new {sh : xj_S} {z nx : Nat} {i : Instr} (hx : p.tables.exec = Jvm.exec) (hb : c.code = cc) (hown : s.vm.findClass (yN mi).cls = some m.cls) (hts : ∀ w ∈ cm, w.before args s = true) (hA : ∀ q, s.heap.size ≤ q → A q)
    (hK : va_K D cl (xj_ty cA) s) (hP : va_P D cl (xj_cw ad cA w) H) (hD : va_D A (xj_cw ad cA w)) (hS : va_S A s.heap H locs)
    (hGN : ∀ ix ci fs, xj_nw X mi ix = some (ci, fs) → xj_GN X yN cm cl mi ix ci fs)
    (hAr : Jvm.Cond.arrayClass .int ∈ cm ∧ Jvm.Cond.arrayClass .boolean ∈ cm ∧ Jvm.Cond.arrayClass .long ∈ cm)
    (hd : xj_dec cc nL pc i nx) (hk : xj_mk X mi i st = some (sh, z, rest)) (hw : xj_wok w = true) (hl : lv_has la nL (xj_cl ad ls)) (hsf : xj_safe w.1.length ls rest = true)
    (hRc : cells + 1 ≤ R.cells) (hRs : slots + z ≤ R.slots)
    (kk : ∀ (q : Nat) (H1 : Heap), lv_has la nL (xj_cl (va_up ad w.1.length q) ls) → va_P D cl (xj_cw (va_up ad w.1.length q) cA (xj_nxt w sh)) H1 → va_D A (xj_cw (va_up ad w.1.length q) cA (xj_nxt w sh)) → va_S A s.heap H1 locs →
      W p l e R s m args below meth c H1 locs (cells + 1) (slots + z) Q (F0 m nx la ((Value.ref w.1.length :: rest).map (xj_cv (va_up ad w.1.length q))))) :
    W p l e R s m args below meth c H locs cells slots Q (F0 m pc la (st.map (xj_cv ad))) := by
  have hn := xj_wok_lt hw
  simp only [xj_safe, Bool.and_eq_true] at hsf
  have hls : ∀ q, xj_cl (va_up ad w.1.length q) ls = xj_cl ad ls := fun q => xj_cl_ag (xj_ag_up hn) hsf.1
  have hrs : ∀ q, (Value.ref w.1.length :: rest).map (xj_cv (va_up ad w.1.length q)) = .ref q :: rest.map (xj_cv ad) := by
    intro q
    rw [List.map_cons, xj_st_ag (xj_ag_up hn) hsf.2]
    show Value.ref (va_up ad w.1.length q w.1.length) :: _ = _
    rw [va_up_self]
  obtain ⟨len, hdec, hfit⟩ := hd
  unfold xj_mk at hk
  split at hk
  · rename_i ix
    split at hk
    · rename_i ci fs hnw
      simp only [Option.some.injEq, Prod.mk.injEq] at hk
      obtain ⟨rfl, rfl, rfl⟩ := hk
      simp only [xj_fit, Bool.and_eq_true, decide_eq_true_eq] at hfit
      obtain ⟨rfl, rfl⟩ := hfit
      obtain ⟨C, T, N, ty0, gs, g1, g2, g3, g4, g5, g6, g7, g8, g9⟩ := hGN _ _ _ hnw
      rw [g7] at hRs kk
      refine va_new hx hb hts g2 ty0 g3 hown (hts _ g4) (hts _ g5) (hts _ g6) hK hP hD hS hA g1 (fs := gs) g9 hRc hRs hdec fun q H1 hP1 hD1 hS1 => ?_
      have hcw : xj_cw (va_up ad w.1.length q) cA (xj_nxt w (.inr (ci, fs))) = xj_cw ad cA w ++ [(q, .inr (ci, gs))] :=
        xj_cw_app hw rfl (fun j hj => xj_setA_ne _ _ hj) (fun j hj => xj_nxt_ne w hj) (by rw [xj_setA_same]; show Sum.inr (ci, fs.mapIdx (xj_fv _ (fun _ => 0))) = _; rw [g8])
      have k9 := kk q H1 (by rw [hls]; exact hl) (by rw [hcw]; exact hP1) (by rw [hcw]; exact hD1) hS1
      rw [hrs] at k9
      exact k9
    · cases hk
  · rename_i t
    split at hk
    · rename_i k9 r
      split at hk
      · cases hk
      · rename_i hno
        simp only [not_or] at hno
        obtain ⟨hk0, hk1⟩ := hno
        have hKf : ∀ (ty : FieldType) (cA' : ClassId), (∃ k : Nat, (xj_ty cA)[k]? = some (cA ty, ty)) → va_K D cl (xj_ty cA ++ [(cA', ty)]) s → (∀ cls, ty ≠ .object cls) → cA' = cA ty := by
          intro ty cA' ⟨k, hk9⟩ hK' hno9
          have h1 := (hK.2 k _ hk9).2
          have h2 := (hK'.2 3 (cA', ty) rfl).2
          have e1 : s.vm.findClass ("[" ++ ty.toString) = some (cA ty) := by
            cases ty <;> first | exact h1 | exact absurd rfl (hno9 _)
          have e2 : s.vm.findClass ("[" ++ ty.toString) = some cA' := by
            cases ty <;> first | exact h2 | exact absurd rfl (hno9 _)
          exact Option.some.inj (e2.symm.trans e1)
        split at hk
        · simp only [Option.some.injEq, Prod.mk.injEq] at hk
          obtain ⟨rfl, rfl, rfl⟩ := hk
          simp only [xj_fit, Bool.and_eq_true, decide_eq_true_eq] at hfit
          obtain ⟨rfl, rfl⟩ := hfit
          refine va_newa hx hb (hts _ hAr.1) (atype := .int) (ty := .int) rfl hK hP hD hS hA (a0 := (k9.toNatClampNeg, .inl (fun _ => 0))) (fun _ => rfl) hk0 rfl (by show k9.toNatClampNeg * 4 ≤ 536870912; omega) hRc hRs hdec fun q cA' H1 hK1 hP1 hD1 hS1 => ?_
          have hc9 := hKf .int cA' ⟨0, rfl⟩ hK1 (fun _ h => by cases h)
          subst hc9
          have hcw : xj_cw (va_up ad w.1.length q) cA (xj_nxt w (.inl (.int, k9.toNatClampNeg))) = xj_cw ad cA w ++ [(q, .inl (cA .int, k9.toNatClampNeg, .inl (fun _ => 0)))] :=
            xj_cw_app hw rfl (fun j hj => xj_setA_ne _ _ hj) (fun j hj => xj_nxt_ne w hj) (by rw [xj_setA_same]; rfl)
          have k8 := kk q H1 (by rw [hls]; exact hl) (by rw [hcw]; exact hP1) (by rw [hcw]; exact hD1) hS1
          rw [hrs] at k8
          exact k8
        · simp only [Option.some.injEq, Prod.mk.injEq] at hk
          obtain ⟨rfl, rfl, rfl⟩ := hk
          simp only [xj_fit, Bool.and_eq_true, decide_eq_true_eq] at hfit
          obtain ⟨rfl, rfl⟩ := hfit
          refine va_newa hx hb (hts _ hAr.2.1) (atype := .boolean) (ty := .boolean) rfl hK hP hD hS hA (a0 := (k9.toNatClampNeg, .inl (fun _ => 0))) (fun _ => rfl) hk0 rfl (by show k9.toNatClampNeg * 1 ≤ 536870912; omega) hRc hRs hdec fun q cA' H1 hK1 hP1 hD1 hS1 => ?_
          have hc9 := hKf .boolean cA' ⟨1, rfl⟩ hK1 (fun _ h => by cases h)
          subst hc9
          have hcw : xj_cw (va_up ad w.1.length q) cA (xj_nxt w (.inl (.boolean, k9.toNatClampNeg))) = xj_cw ad cA w ++ [(q, .inl (cA .boolean, k9.toNatClampNeg, .inl (fun _ => 0)))] :=
            xj_cw_app hw rfl (fun j hj => xj_setA_ne _ _ hj) (fun j hj => xj_nxt_ne w hj) (by rw [xj_setA_same]; rfl)
          have k8 := kk q H1 (by rw [hls]; exact hl) (by rw [hcw]; exact hP1) (by rw [hcw]; exact hD1) hS1
          rw [hrs] at k8
          exact k8
        · simp only [Option.some.injEq, Prod.mk.injEq] at hk
          obtain ⟨rfl, rfl, rfl⟩ := hk
          simp only [xj_fit, Bool.and_eq_true, decide_eq_true_eq] at hfit
          obtain ⟨rfl, rfl⟩ := hfit
          refine va_newa hx hb (hts _ hAr.2.2) (atype := .long) (ty := .long) rfl hK hP hD hS hA (a0 := (k9.toNatClampNeg, .inr (.inl (fun _ => 0)))) (fun _ => rfl) hk0 rfl (by show k9.toNatClampNeg * 8 ≤ 536870912; omega) hRc hRs hdec fun q cA' H1 hK1 hP1 hD1 hS1 => ?_
          have hc9 := hKf .long cA' ⟨2, rfl⟩ hK1 (fun _ h => by cases h)
          subst hc9
          have hcw : xj_cw (va_up ad w.1.length q) cA (xj_nxt w (.inl (.long, k9.toNatClampNeg))) = xj_cw ad cA w ++ [(q, .inl (cA .long, k9.toNatClampNeg, .inr (.inl (fun _ => 0))))] :=
            xj_cw_app hw rfl (fun j hj => xj_setA_ne _ _ hj) (fun j hj => xj_nxt_ne w hj) (by simp only [if_true]; rfl)
          have k8 := kk q H1 (by rw [hls]; exact hl) (by rw [hcw]; exact hP1) (by rw [hcw]; exact hD1) hS1
          rw [hrs] at k8
          exact k8
        · cases hk
    · cases hk
  · cases hk
/-- the words of a catch: the row of the table that takes it -/
def xj_GH (yN : Nat → MethodName) (hh : Nat → List (Nat × Nat × Nat × Nat)) (cm wk : List Jvm.Cond) (ncL : List (String × String)) (E : String) (mi pc hp : Nat) : Prop :=
  ∃ (pre : List ExceptionTableEntry) (x : ExceptionTableEntry) (suf : List ExceptionTableEntry) (nm : String), tableOf (hh mi) = pre ++ x :: suf ∧ x.handlerPc = hp ∧ covers x pc = true ∧ x.catchType ≠ 0 ∧ Jvm.Cond.classLink (yN mi).cls x.catchType nm ∈ cm ∧ Jvm.Cond.castable E nm ∈ wk ∧
    ∀ z ∈ pre, covers z pc = false ∨ (z.catchType ≠ 0 ∧ ∃ nm', Jvm.Cond.classLink (yN mi).cls z.catchType nm' ∈ cm ∧ (E, nm') ∈ ncL)
theorem xj_cth {hh : Nat → List (Nat × Nat × Nat × Nat)} {stL : List (String × Nat × String)} {ncL : List (String × String)} {E : String} {hp : Nat} {ce : Cell} {q : Addr} (hown : s.vm.findClass (yN mi).cls = some m.cls) (hts : ∀ w ∈ cm, w.before args s = true) (hwk : xj_Wk wk) (hF : xj_Fx X D cl cA A wk stL ncL ad s s.heap)
    (htab : c.exceptionTable.toList = tableOf (hh mi)) (hGH : xj_GH yN hh cm wk ncL E mi pc hp) (hcell : H[q]? = some ce) (hv : ce.vm = .none) (hcl : s.vm.findClass E = some ce.cls)
    (kk : W p l e R s m args below meth c H locs cells slots Q (F0 m hp la [.ref q])) : vx_W p l e R s m args below meth c H locs cells slots Q (F0 m pc la rest) q := by
  obtain ⟨pre, x, suf, nm, h1, rfl, h3, h4, h5, h6, h7⟩ := hGH
  refine vx_catch hown pre x suf (htab.trans h1) (fun z hz => ?_) h3 h4 (hts _ h5) (va_Nw.use (hwk _ h6).1 (hF.2.2.2.1 _ h6)) hcell hv hcl kk
  rcases h7 z hz with h | ⟨ha, nm', hb', hc'⟩
  · exact Or.inl h
  · exact Or.inr ⟨ha, nm', hts _ hb', hF.2.2.2.2.2.2.2 _ hc'⟩
end XJ8
end
section
/-! OUR MACHINE's RUNS ARE THE MODEL's -/
/-- all that the tables owe -/
def xj_Gl (X : xj_T) (yN : Nat → MethodName) (bt : Nat → ByteArray) (mx : Nat → Nat) (hh : Nat → List (Nat × Nat × Nat × Nat)) (cm wk : List Jvm.Cond) (cl : List vw_C) (stL : List (String × Nat × String)) (ncL : List (String × String)) (ex : Nat → String × List String) : Prop :=
  cm.all goodWord = true ∧ xj_Wk wk ∧
  (∀ mi pc i nx, xj_cd X mi pc = some (i, nx) → xj_dec (bt mi) (mx mi) pc i nx) ∧
  (∀ mi ix ci k so, xj_fl X mi ix = some (ci, k, so) → ∃ (C : String) (T : u_T) (N : Nat) (ty0 : Nat → FieldType), cl[ci]? = some (C, T, N) ∧ (∀ w ∈ u_ws C T N, w ∈ cm) ∧ (∀ k, k < N → parseFieldDescriptor (T k).2.2.1 = some (ty0 k)) ∧ (∀ a, a < N → ∀ b, b < N → a ≠ b → (T a).2.1 ≠ (T b).2.1) ∧ k < N ∧
    Jvm.Cond.fieldLink (yN mi).cls ix (T k).1 (T k).2.1 (T k).2.2.1 ∈ cm ∧
    (so = 0 → ty0 k = .int ∧ (T k).2.2.2 = false) ∧ (so = 1 → ty0 k = .boolean ∧ (T k).2.2.2 = false) ∧ (so = 2 → ((∃ t, ty0 k = .array t) ∨ ∃ n, ty0 k = .object n) ∧ (T k).2.2.2 = true ∧ (T k).1 = (yN mi).cls ∧ (yN mi).name = "<init>")) ∧
  (∀ mi ix a b, xj_ml X mi ix = some (9, a, b) → Jvm.Cond.methodLink (yN mi).cls ix Lib.objectInit ∈ cm ∧ Jvm.Cond.instanceMethod Lib.objectInit ∈ cm ∧ Jvm.Cond.code Lib.objectInit ⟨#[0xb1]⟩ 1 none ∈ cm) ∧
  (∀ mi ix a b, xj_ml X mi ix = some (8, a, b) → Jvm.Cond.methodLink (yN mi).cls ix arraycopyName ∈ cm ∧ Jvm.Cond.native arraycopyName ∈ cm ∧ Jvm.Cond.static arraycopyName ∈ cm ∧ Jvm.Cond.initialized "java/lang/System" ∈ cm) ∧
  (∀ mi ix a, xj_gs X mi ix = some a → a = 1001 ∧ ∃ host, Jvm.Cond.fieldLinkNest (yN mi).cls ix "CaseDesk" "STATE_AFTER" "[I" host ∈ wk) ∧
  (∀ a n f, xj_gv X a = some (n, f) → 1000 ≤ a ∧ a < 2000) ∧
  (∀ mi ix kd y k, xj_ml X mi ix = some (kd, y, k) → kd < 3 → xj_GM X yN bt mx hh cm cl wk mi ix kd y k) ∧
  (∀ mi ix ci fs, xj_nw X mi ix = some (ci, fs) → xj_GN X yN cm cl mi ix ci fs) ∧
  (Jvm.Cond.arrayClass .int ∈ cm ∧ Jvm.Cond.arrayClass .boolean ∈ cm ∧ Jvm.Cond.arrayClass .long ∈ cm) ∧
  (∀ mi pc q, xj_th X mi pc = some q → xj_GT yN bt hh cm wk stL ex mi pc q) ∧
  (∀ mi pc q, xj_ca X mi pc q = some none → hh mi = []) ∧
  (∀ mi pc q hp, xj_ca X mi pc q = some (some hp) → xj_GH yN hh cm wk ncL (ex q).1 mi pc hp)
/-- a frame of ours in the model -/
def xj_At (X : xj_T) (yN : Nat → MethodName) (bt : Nat → ByteArray) (mx : Nat → Nat) (hh : Nat → List (Nat × Nat × Nat × Nat)) (cm : List Jvm.Cond) (mi : Nat) (p : Program) (s : State) (m : MethodId) (args : Array Value) (meth : Method) (c : Code) : Prop :=
  p.tables.exec = Jvm.exec ∧ c.code = bt mi ∧ c.maxLocals = mx mi ∧ meth.sig.returnType = (xj_mt X mi).2 ∧ meth.locks = false ∧ s.vm.findClass (yN mi).cls = some m.cls ∧ meth.name = (yN mi).name ∧ (∀ w ∈ cm, w.before args s = true) ∧ c.exceptionTable.toList = tableOf (hh mi)
/-- what is asked of the end: a return comes to Q; a throw's Q is that of a method -/
def xj_Fin (X : xj_T) (bt : Nat → ByteArray) (mx : Nat → Nat) (ex : Nat → String × List String) (D : va_G) (cl : List vw_C) (cA : FieldType → ClassId) (sz : Nat) (mi : Nat) (p : Program) (l : Launch) (e : Env) (R : Room) (s : State) (m : MethodId) (args : Array Value) (below : List Frame) (meth : Method) (c : Code) (Q : State → Prop) (n0 : Nat) (ad0 : Nat → Nat) (o : Option Value ⊕ Nat) (w' : xj_W) (cells slots : Nat) : Prop :=
  match o with
  | .inl v => ∀ (ad : Nat → Nat) (H : Heap) (locs : List Loc) (la : Array Slot) (pc nx : Nat) (i : Instr) (st : List Value), xj_ag n0 ad0 ad → va_P D cl (xj_cw ad cA w') H → va_D (fun q => sz ≤ q) (xj_cw ad cA w') → va_S (fun q => sz ≤ q) s.heap H locs → xj_dec (bt mi) (mx mi) pc i nx → xj_end X mi i st w' = some (.inl v, w', 0, 0) →
      W p l e R s m args below meth c H locs cells slots Q (F0 m pc la (st.map (xj_cv ad)))
  | .inr q => Q = vx_MQ below xj_No (xj_XC D cl cA (fun q => sz ≤ q) (ex q).1 n0 ad0 w') args s cells slots (fun q => sz ≤ q)
def xj_FS (X : xj_T) (yN : Nat → MethodName) (bt : Nat → ByteArray) (mx : Nat → Nat) (hh : Nat → List (Nat × Nat × Nat × Nat)) (cm wk : List Jvm.Cond) (cl : List vw_C) (stL : List (String × Nat × String)) (ncL : List (String × String)) (ex : Nat → String × List String) (l : Launch) (n : Nat) : Prop :=
  ∀ (d mi pc : Nat) (ls : List (Nat × Value)) (st : List Value) (w : xj_W) (o : Option Value ⊕ Nat) (w' : xj_W) (dc dz : Nat), xj_run X n d mi pc ls st w = some (o, w', dc, dz) →
  ∀ (D : va_G) (cA : FieldType → ClassId) (sz : Nat) (p : Program) (e : Env) (R : Room) (s : State) (m : MethodId) (args : Array Value) (below : List Frame) (meth : Method) (c : Code) (cells slots n0 : Nat) (Q : State → Prop) (ad0 ad : Nat → Nat),
    xj_At X yN bt mx hh cm mi p s m args meth c → xj_Fx X D cl cA (fun q => sz ≤ q) wk stL ncL ad s s.heap → sz ≤ s.heap.size → n0 ≤ w.1.length → xj_ag n0 ad0 ad →
    d + 9 ≤ R.frames → 48 * d + 160 ≤ R.locals → cells + dc ≤ R.cells → slots + dz ≤ R.slots →
    xj_Fin X bt mx ex D cl cA sz mi p l e R s m args below meth c Q n0 ad0 o w' (cells + dc) (slots + dz) →
    xj_Go p l e R s m args below meth c cells slots Q D cl cA (fun q => sz ≤ q) (mx mi) ad pc ls st w
end
section
theorem xj_args (ad : Nat → Nat) : ∀ (av : List Value) (i : Nat), lv_args i (av.map (xj_cv ad)) = xj_cl ad (lv_args i av)
  | [], _ => rfl
  | v :: r, i => by
    simp only [List.map_cons, lv_args, xj_cl, xj_cv_cat]
    congr 1
    exact xj_args ad r _
theorem xj_slots (ad : Nat → Nat) : ∀ (av : List Value), xj_one av = true → (lg_sl (av.map (xj_cv ad))).length = av.length
  | [], _ => rfl
  | v :: r, h => by
    simp only [xj_one, List.all_cons, Bool.and_eq_true, beq_iff_eq] at h
    have h2 := xj_slots ad r h.2
    have hc : ¬ (xj_cv ad v).category = 2 := by rw [xj_cv_cat, h.1]; decide
    simp only [lg_sl, List.map_cons, List.flatMap_cons, hc, if_false, List.length_append, List.length_cons, List.length_nil] at h2 ⊢
    omega
/-- as Met.ofW, for a class that the machine has entries for, but none for this method -/
theorem xj_ofW {l : Launch} {y : MethodName} {ws ws' : List Jvm.Cond} {rm : Room} {Pc : Array Value → State → Prop} {Qc : Array Value → State → Outcome → State → Prop} {mc ms : Nat} {free : Addr → Prop} {cc : ByteArray} {maxL : Nat} {ret : Option FieldType}
    (hy : plainFor y = true) (hw : ws = Jvm.Cond.code y cc maxL ret :: ws')
    (body : ∀ p e s m args below meth c s₁, BodyLoose p l y (headSpec ws rm) cc maxL ret e s m args below meth c s₁ → c.maxLocals = maxL → Pc args s →
      W p l e (headSpec ws rm).room s m args below meth c s.heap [] 0 0 (MQ below Qc args s mc ms free) (entryFrame m args maxL)) : Met l y ws rm Pc Qc mc ms free := by
  refine MetFree.of_bodySF (code := cc) (maxLocals := maxL) (ret := ret) hy ?_ ?_
  · intro args s m h hn
    obtain ⟨meth, c, h1, h2, h3, h4, h5, h6, -, -⟩ := Cond.code_spec hn (atoms_spec (ws := ws) h _ (by rw [hw]; exact List.mem_cons_self))
    exact ⟨meth, c, h1, h2, h3, h4, h5, h6⟩
  · intro p e s m args below meth c s₁ B hml hP _
    have hh0 : s₁.heap = s.heap := by rw [B.state]; rfl
    obtain ⟨t, a1, o, b1, b2, b3⟩ := body p e s m args below meth c s₁ B hml hP s₁ hh0 (Stand.of_body B)
    exact ⟨t, o, a1, b1, b2, ⟨b3.1, b3.2⟩⟩
section XJ9
variable {X : xj_T} {yN : Nat → MethodName} {bt : Nat → ByteArray} {mx : Nat → Nat} {hh : Nat → List (Nat × Nat × Nat × Nat)} {cm wk : List Jvm.Cond} {cl : List vw_C} {stL : List (String × Nat × String)} {ncL : List (String × String)} {ex : Nat → String × List String} {l : Launch} {n : Nat}
theorem xj_at_of {p : Program} {y d dc dz : Nat} {e : Env} {s : State} {m : MethodId} {args : Array Value} {below : List Frame} {meth : Method} {c : Code} {s₁ : State} (B : BodyLoose p l (yN y) (headSpec (xj_ws X yN bt mx hh cm y) (xj_rm d dc dz)) (bt y) (mx y) (xj_mt X y).2 e s m args below meth c s₁) (hml : c.maxLocals = mx y) : xj_At X yN bt mx hh cm y p s m args meth c := by
  have hts := atoms_spec (ws := xj_ws X yN bt mx hh cm y) B.pre
  refine ⟨B.exec, B.bytes, hml, B.returns, B.notSynchronized, findClass_of_methodNamed B.named, (name_of_methodNamed B.named B.method).1, fun w hw => hts w (List.mem_cons_of_mem _ hw), ?_⟩
  have hw := hts _ (List.mem_cons_self : xj_wd X yN bt mx hh y ∈ xj_ws X yN bt mx hh cm y)
  by_cases hhy : hh y = []
  · simp only [xj_wd, hhy, if_true] at hw
    have h9 := B.noHandlers hw
    rw [hhy]
    simpa [tableOf] using h9
  · simp only [xj_wd, hhy, if_false] at hw
    exact vx_table (x := yN y) B hw
theorem xj_ctr (hFS : xj_FS X yN bt mx hh cm wk cl stL ncL ex l n) {d y : Nat} {av : List Value} {w w1 : xj_W} {v : Option Value} {dc dz : Nat} (h : xj_run X n d y 0 (lv_args 0 av) [] w = some (.inl v, w1, dc, dz)) (hone : xj_one av = true) (hlen : av.length ≤ mx y) (hpl : plainFor (yN y) = true ∧ (hh y ≠ [] → plainName (yN y).cls = true)) (D : va_G) (cA : FieldType → ClassId) (sz : Nat) (ad : Nat → Nat) :
    Met l (yN y) (xj_ws X yN bt mx hh cm y) (xj_rm d dc dz) (xj_Pc X D cl cA sz wk stL ncL ad av w) (xj_Qr D cl cA (fun q => sz ≤ q) w.1.length ad v w1) dc dz (fun q => sz ≤ q) := by
  have body : ∀ p e s m args below meth c s₁, BodyLoose p l (yN y) (headSpec (xj_ws X yN bt mx hh cm y) (xj_rm d dc dz)) (bt y) (mx y) (xj_mt X y).2 e s m args below meth c s₁ → c.maxLocals = mx y → xj_Pc X D cl cA sz wk stL ncL ad av w args s →
      W p l e (headSpec (xj_ws X yN bt mx hh cm y) (xj_rm d dc dz)).room s m args below meth c s.heap [] 0 0 (MQ below (xj_Qr D cl cA (fun q => sz ≤ q) w.1.length ad v w1) args s dc dz (fun q => sz ≤ q)) (entryFrame m args (mx y)) := by
    intro p e s m args below meth c s₁ B hml hv
    obtain ⟨rfl, hF, hsz, hP, hD⟩ := hv
    have hAt := xj_at_of B hml
    have hl0 := lv_entry (av.map (xj_cv ad)) (n := mx y) (by rw [xj_slots ad av hone]; exact hlen)
    rw [lg_entry_eq]
    generalize (lg_sl (av.map (xj_cv ad)) ++ List.replicate (mx y - (lg_sl (av.map (xj_cv ad))).length) Slot.unset).toArray = la at hl0 ⊢
    rw [xj_args] at hl0
    have hgo := hFS d y 0 (lv_args 0 av) [] w (.inl v) w1 dc dz h D cA sz p e (headSpec (xj_ws X yN bt mx hh cm y) (xj_rm d dc dz)).room s m (av.map (xj_cv ad)).toArray below meth c 0 0 w.1.length (MQ below (xj_Qr D cl cA (fun q => sz ≤ q) w.1.length ad v w1) (av.map (xj_cv ad)).toArray s (0 + dc) (0 + dz) (fun q => sz ≤ q)) ad ad hAt hF hsz (Nat.le_refl _) xj_ag.rf
      (Nat.le_refl (d + 9)) (Nat.le_refl (48 * d + 160)) (by rw [Nat.zero_add]; exact Nat.le_refl dc) (by rw [Nat.zero_add]; exact Nat.le_refl dz)
      (fun ad1 H locs la1 pc nx i st hag1 hP1 hD1 hS1 hd1 he1 => xj_rt hAt.1 hAt.2.1 hAt.2.2.2.1 hAt.2.2.2.2.1 he1 hd1 (fun v9 hv9 t ht hW => by
        cases hv9
        exact ⟨ad1, hag1, rfl, by rw [ht]; exact hP1, hD1, hS1.F ht⟩) hS1.2.2)
    have hW := hgo s.heap [] la hl0 hP hD va_S.rf
    rw [Nat.zero_add, Nat.zero_add] at hW
    exact hW
  by_cases hhy : hh y = []
  · exact xj_ofW (cc := bt y) (maxL := mx y) (ret := (xj_mt X y).2) (ws' := cm) hpl.1 (by simp only [xj_ws, xj_wd, hhy, if_true]) body
  · exact va_MetW (cc := bt y) (maxL := mx y) (ret := (xj_mt X y).2) (hh := hh y) (ws' := cm) (hpl.2 hhy) (by simp only [xj_ws, xj_wd, hhy, if_false]) body
theorem xj_ctrX (hFS : xj_FS X yN bt mx hh cm wk cl stL ncL ex l n) {d y : Nat} {av : List Value} {w w1 : xj_W} {q : Nat} {dc dz : Nat} (h : xj_run X n d y 0 (lv_args 0 av) [] w = some (.inr q, w1, dc, dz)) (hone : xj_one av = true) (hlen : av.length ≤ mx y) (hpl : plainName (yN y).cls = true) (hhy : hh y = []) (D : va_G) (cA : FieldType → ClassId) (sz : Nat) (ad : Nat → Nat) :
    vx_Met l (yN y) (xj_ws X yN bt mx hh cm y) (xj_rm d dc dz) (xj_Pc X D cl cA sz wk stL ncL ad av w) xj_No (xj_XC D cl cA (fun q => sz ≤ q) (ex q).1 w.1.length ad w1) dc dz (fun q => sz ≤ q) := by
  refine vx_ofW (cc := bt y) (maxL := mx y) (ret := (xj_mt X y).2) (ws' := cm) hpl (by simp only [xj_ws, xj_wd, hhy, if_true]) ?_
  intro p e s m args below meth c s₁ B hml _ hv
  obtain ⟨rfl, hF, hsz, hP, hD⟩ := hv
  have hAt := xj_at_of B hml
  have hl0 := lv_entry (av.map (xj_cv ad)) (n := mx y) (by rw [xj_slots ad av hone]; exact hlen)
  rw [lg_entry_eq]
  generalize (lg_sl (av.map (xj_cv ad)) ++ List.replicate (mx y - (lg_sl (av.map (xj_cv ad))).length) Slot.unset).toArray = la at hl0 ⊢
  rw [xj_args] at hl0
  have hgo := hFS d y 0 (lv_args 0 av) [] w (.inr q) w1 dc dz h D cA sz p e (headSpec (xj_ws X yN bt mx hh cm y) (xj_rm d dc dz)).room s m (av.map (xj_cv ad)).toArray below meth c 0 0 w.1.length (vx_MQ below xj_No (xj_XC D cl cA (fun q => sz ≤ q) (ex q).1 w.1.length ad w1) (av.map (xj_cv ad)).toArray s (0 + dc) (0 + dz) (fun q => sz ≤ q)) ad ad hAt hF hsz (Nat.le_refl _) xj_ag.rf
    (Nat.le_refl (d + 9)) (Nat.le_refl (48 * d + 160)) (by rw [Nat.zero_add]; exact Nat.le_refl dc) (by rw [Nat.zero_add]; exact Nat.le_refl dz) rfl
  have hW := hgo s.heap [] la hl0 hP hD va_S.rf
  rw [Nat.zero_add, Nat.zero_add] at hW
  exact hW
theorem xj_inv_len {mi kd y : Nat} {i : Instr} {st av rest : List Value} {w : xj_W} (hi : xj_inv X mi i st w = some (kd, y, av, rest)) : ∃ ix k, xj_ml X mi ix = some (kd, y, k) ∧ kd < 3 ∧ av.length = k + (if kd = 0 then 0 else 1) := by
  unfold xj_inv at hi
  split at hi
  · rename_i ix
    split at hi
    · rename_i y' k' hmlk
      split at hi
      · rename_i hc
        simp only [Option.some.injEq, Prod.mk.injEq] at hi
        obtain ⟨rfl, rfl, rfl, rfl⟩ := hi
        refine ⟨ix, k', hmlk, by omega, ?_⟩
        rw [List.length_reverse, List.length_take]
        simp only [if_true]
        omega
      · cases hi
    · cases hi
  · rename_i ix
    split at hi
    · rename_i y' k' hmlk
      split at hi
      · rename_i b r hdrop
        split at hi
        · split at hi
          · simp only [Option.some.injEq, Prod.mk.injEq] at hi
            obtain ⟨rfl, rfl, rfl, rfl⟩ := hi
            refine ⟨ix, k', hmlk, by omega, ?_⟩
            have h9 : (st.drop k').length = r.length + 1 := by rw [hdrop]; rfl
            rw [List.length_drop] at h9
            rw [List.length_cons, List.length_reverse, List.length_take]
            simp only [Nat.succ_ne_zero, if_false]
            omega
          · cases hi
        · cases hi
      · cases hi
    · cases hi
  · rename_i ix
    split at hi
    · rename_i y' k' hmlk
      split at hi
      · rename_i b r hdrop
        split at hi
        · simp only [Option.some.injEq, Prod.mk.injEq] at hi
          obtain ⟨rfl, rfl, rfl, rfl⟩ := hi
          refine ⟨ix, k', hmlk, by omega, ?_⟩
          have h9 : (st.drop k').length = r.length + 1 := by rw [hdrop]; rfl
          rw [List.length_drop] at h9
          rw [List.length_cons, List.length_reverse, List.length_take]
          have : ¬ (2 : Nat) = 0 := by omega
          simp only [this, if_false]
          omega
        · cases hi
      · cases hi
    · cases hi
  · cases hi
end XJ9
end
section
set_option maxHeartbeats 1000000 in
/-- OUR MACHINE's RUNS ARE THE MODEL's: every frame of ours, wherever its cells lie -/
theorem xj_main {X : xj_T} {yN : Nat → MethodName} {bt : Nat → ByteArray} {mx : Nat → Nat} {hh : Nat → List (Nat × Nat × Nat × Nat)} {cm wk : List Jvm.Cond} {cl : List vw_C} {stL : List (String × Nat × String)} {ncL : List (String × String)} {ex : Nat → String × List String} {l : Launch}
    (G : xj_Gl X yN bt mx hh cm wk cl stL ncL ex) (hl : l.stackTraces = false) : ∀ n, xj_FS X yN bt mx hh cm wk cl stL ncL ex l n := by
  obtain ⟨gw, gk, gc, gf, go, ga, gs, gv, gm, gn, gr, gt, gp, gh⟩ := G
  intro n
  induction n with
  | zero => intro d mi pc ls st w o w' dc dz h; simp [xj_run] at h
  | succ n ih =>
    intro d mi pc ls st w o w' dc dz h D cA sz p e R s m args below meth c cells slots n0 Q ad0 ad hAt hF hsz hn0 hag hRf hRl hRc hRs hFin
    have hAt' := hAt
    obtain ⟨hx, hb, hml, hr, hlocks, hown, hname, hts, htab⟩ := hAt
    rw [xj_run_succ] at h
    unfold xj_lay at h
    cases hcd : xj_cd X mi pc with
    | none => simp [hcd] at h
    | some q0 =>
      obtain ⟨i, nx⟩ := q0
      simp only [hcd] at h
      have hdec := gc _ _ _ _ hcd
      cases hs : xj_step X mi i nx pc ls st w with
      | some f =>
        obtain ⟨pc', ls', st', w1⟩ := f
        simp only [hs] at h
        refine xj_snS hx hb hts hown hml hF.1 (by omega) (by omega) ⟨gc mi, ?_, ?_, ?_⟩ ?_ hF.2.1 hcd hs (ih d mi pc' ls' st' w1 o w' dc dz h D cA sz p e R s m args below meth c cells slots n0 Q ad0 ad hAt' hF hsz (by rw [xj_step_len hs]; exact hn0) hag hRf hRl hRc hRs hFin)
        · intro ix ci k so hfl
          obtain ⟨C, T, N, ty0, f1, f2, f3, f4, f5, f6, f7, f8, f9⟩ := gf _ _ _ _ _ hfl
          exact ⟨C, T, N, ty0, f1, f2, f3, f4, f5, hts _ f6, f7, f8, fun q => by rw [hname]; exact f9 q⟩
        · intro ix a b hO
          obtain ⟨o1, o2, o3⟩ := go _ _ _ _ hO
          exact ⟨hts _ o1, hts _ o2, hts _ o3⟩
        · intro ix a b hO
          obtain ⟨o1, o2, o3, o4⟩ := ga _ _ _ _ hO
          exact ⟨hts _ o1, hts _ o2, hts _ o3, hts _ o4⟩
        · intro ix a hg H locs pc9 la rest hS9 hd9 kk
          obtain ⟨rfl, host, hh9⟩ := gs _ _ _ hg
          exact va_getsN hx hb hF.2.2.1 hS9 hown (va_Nw.use (gk _ hh9).1 (hF.2.2.2.1 _ hh9)) (fun _ z => z) hd9 kk
      | none =>
        simp only [hs] at h
        cases hi : xj_inv X mi i st w with
        | some f =>
          obtain ⟨kd, y, av, rest⟩ := f
          simp only [hi] at h
          split at h
          · rename_i hcond
            obtain ⟨hd0, hsf, hone⟩ := hcond
            obtain ⟨ix, k, hmlk, hkd3, hlen⟩ := xj_inv_len hi
            have hGM := gm mi ix kd y k hmlk hkd3
            have hpl := hGM.1
            have hle : av.length ≤ mx y := by
              have h3 := hGM.2.2.1
              rw [hlen]
              by_cases hk0 : kd = 0
              · simp only [hk0, if_true] at h3 ⊢; omega
              · simp only [hk0, if_false] at h3 ⊢; omega
            simp only [xj_safe, Bool.and_eq_true] at hsf
            cases hy : xj_run X n (d - 1) y 0 (lv_args 0 av) [] w with
            | none => simp [hy] at h
            | some f =>
              obtain ⟨o1, w1, c1, z1⟩ := f
              have hgrow := xj_grow X _ _ _ _ _ _ _ _ _ _ _ hy
              simp only [hy] at h
              cases o1 with
              | inl v =>
                simp only at h
                obtain ⟨o2, w2, c2, z2, e1, e2⟩ := xj_add_some h
                simp only [Prod.mk.injEq] at e2
                obtain ⟨rfl, rfl, rfl, rfl⟩ := e2
                have hM := xj_ctr ih hy hone hle ⟨hpl.1, fun q => hpl.2 (Or.inr q)⟩ D cA sz ad
                intro H locs la hl9 hP hD hS
                obtain ⟨hr9, hnx⟩ := xj_ret (d := d - 1) (la := la) (R := R) (e := e) (below := below) (meth := meth) (cells := cells) (slots := slots) hx hb hml hown hts gw gk hF hsz hP hD hS hl9.1 (gm mi) hdec hi hM (by omega) (by omega) (by omega) (by omega)
                subst hnx
                refine xj_cont hr9 hS fun ad' H1 locs1 hag1 hP1 hD1 hS1 => ?_
                have hgo := ih d mi (pc + 3) ls (v.toList ++ rest) w1 o w' c2 z2 e1 D cA sz p e R s m args below meth c (cells + c1) (slots + z1) n0 Q ad0 ad' hAt' (hF.ag gv hag1) hsz (Nat.le_trans hn0 hgrow) (hag.trans hn0 hag1) hRf hRl (by omega) (by omega) (by rw [Nat.add_assoc, Nat.add_assoc]; exact hFin)
                have k9 := hgo H1 locs1 la (by rw [xj_cl_ag hag1 hsf.1]; exact hl9) hP1 hD1 hS1
                have hst : (v.toList ++ rest).map (xj_cv ad') = (v.map (xj_cv ad')).toList ++ rest.map (xj_cv ad) := by
                  rw [List.map_append, xj_st_ag hag1 hsf.2]
                  cases v <;> rfl
                rw [hst] at k9
                exact k9
              | inr q =>
                simp only at h
                cases hca : xj_ca X mi pc q with
                | none => simp [hca] at h
                | some hp0 =>
                  cases hp0 with
                  | none =>
                    simp only [hca] at h
                    split at h
                    · rename_i hkd
                      subst hkd
                      simp only [Option.some.injEq, Prod.mk.injEq] at h
                      obtain ⟨rfl, rfl, rfl, rfl⟩ := h
                      obtain ⟨hhy, -⟩ := hGM.2.2.2.2.2.2.2.2.1 rfl
                      have hM := xj_ctrX ih hy hone hle (hpl.2 (Or.inl (by decide))) hhy D cA sz ad
                      intro H locs la hl9 hP hD hS
                      have hr9 := xj_retX (d := d - 1) (la := la) (R := R) (e := e) (below := below) (meth := meth) (cells := cells) (slots := slots) hx hb hml hown hts gw gk hF hsz hP hD hS hl9.1 (gm mi) hdec hi hM (by omega) (by omega) (by omega) (by omega)
                      have hQ : Q = vx_MQ below xj_No (xj_XC D cl cA (fun q => sz ≤ q) (ex q).1 n0 ad0 w1) args s (cells + c1) (slots + z1) (fun q => sz ≤ q) := hFin
                      subst hQ
                      refine xj_contX hr9 hS fun ad' H1 locs1 ce q9 hag1 hP1 hD1 hS1 hce hcv hcl => ?_
                      refine vx_out (fun x hx9 => by rw [htab, gp _ _ _ hca] at hx9; simp [tableOf] at hx9) hlocks hce hcv hcl (fun t ht hvm => ⟨rfl, ad', hag.trans hn0 hag1, by rw [ht]; exact hP1, hD1, hS1.F ht⟩) hS1.2.2 (Nat.le_refl _) (Nat.le_refl _)
                    · cases h
                  | some hp =>
                    simp only [hca] at h
                    split at h
                    · rename_i hcond2
                      obtain ⟨hkd, hwok⟩ := hcond2
                      subst hkd
                      obtain ⟨o2, w2, c2, z2, e1, e2⟩ := xj_add_some h
                      simp only [Prod.mk.injEq] at e2
                      obtain ⟨rfl, rfl, rfl, rfl⟩ := e2
                      obtain ⟨hhy, -⟩ := hGM.2.2.2.2.2.2.2.2.1 rfl
                      have hM := xj_ctrX ih hy hone hle (hpl.2 (Or.inl (by decide))) hhy D cA sz ad
                      intro H locs la hl9 hP hD hS
                      have hr9 := xj_retX (d := d - 1) (la := la) (R := R) (e := e) (below := below) (meth := meth) (cells := cells) (slots := slots) hx hb hml hown hts gw gk hF hsz hP hD hS hl9.1 (gm mi) hdec hi hM (by omega) (by omega) (by omega) (by omega)
                      refine xj_contX hr9 hS fun ad' H1 locs1 ce q9 hag1 hP1 hD1 hS1 hce hcv hcl => ?_
                      refine xj_cth hown hts gk (hF.ag gv hag1) htab (gh _ _ _ _ hca) hce hcv hcl ?_
                      have hup : xj_ag w1.1.length ad' (va_up ad' 4096 q9) := xj_ag_up2 (xj_wok_lt hwok)
                      have hcw : xj_cw (va_up ad' 4096 q9) cA w1 = xj_cw ad' cA w1 := xj_cw_ag hup hwok
                      have hag2 : xj_ag w.1.length ad (va_up ad' 4096 q9) := hag1.trans hgrow hup
                      have hgo := ih d mi hp ls [.ref 4096] w1 o w' c2 z2 e1 D cA sz p e R s m args below meth c (cells + c1) (slots + z1) n0 Q ad0 (va_up ad' 4096 q9) hAt' (hF.ag gv hag2) hsz (Nat.le_trans hn0 hgrow) (hag.trans hn0 hag2) hRf hRl (by omega) (by omega) (by rw [Nat.add_assoc, Nat.add_assoc]; exact hFin)
                      have k9 := hgo H1 locs1 la (by rw [xj_cl_ag hag2 hsf.1]; exact hl9) (by rw [hcw]; exact hP1) (by rw [hcw]; exact hD1) hS1
                      have hst : ([Value.ref 4096] : List Value).map (xj_cv (va_up ad' 4096 q9)) = [.ref q9] := by
                        show [Value.ref (va_up ad' 4096 q9 4096)] = _
                        rw [va_up_self]
                      rw [hst] at k9
                      exact k9
                    · cases h
          · cases h
        | none =>
          simp only [hi] at h
          cases he : xj_end X mi i st w with
          | some f =>
            obtain ⟨o1, w1, c1, z1⟩ := f
            simp only [he, Option.some.injEq, Prod.mk.injEq] at h
            obtain ⟨rfl, rfl, rfl, rfl⟩ := h
            obtain ⟨rfl, rfl, rfl⟩ := xj_end_w he
            intro H locs la hl9 hP hD hS
            cases o1 with
            | inl v => exact hFin ad H locs la pc nx i st hag hP hD hS hdec he
            | inr q =>
              exfalso
              unfold xj_end at he
              repeat' split at he
              all_goals simp only [Option.some.injEq, Prod.mk.injEq, reduceCtorEq, false_and] at he
          | none =>
            simp only [he] at h
            cases ht : xj_th X mi pc with
            | some q =>
              simp only [ht] at h
              split at h
              · rename_i hst
                simp only [Option.some.injEq, Prod.mk.injEq] at h
                obtain ⟨rfl, rfl, rfl, rfl⟩ := h
                have hst0 : st = [] := by simpa using hst
                subst hst0
                have hQ : Q = vx_MQ below xj_No (xj_XC D cl cA (fun q => sz ≤ q) (ex q).1 n0 ad0 w) args s (cells + 1) (slots + 6) (fun q => sz ≤ q) := hFin
                subst hQ
                intro H locs la hl9 hP hD hS
                exact xj_thw hx hb hml hlocks hown hts gk hl (fun q9 => by rw [htab, q9]; rfl) hF hP hD hS hl9.1 hag (gt _ _ _ ht) (by omega) (by omega) (by omega) (by omega)
              · cases h
            | none =>
              simp only [ht] at h
              cases hk : xj_mk X mi i st with
              | none => simp [hk] at h
              | some f =>
                obtain ⟨sh, z0, rest⟩ := f
                simp only [hk] at h
                split at h
                · rename_i hcond
                  obtain ⟨hsf, hwok⟩ := hcond
                  obtain ⟨o2, w2, c2, z2, e1, e2⟩ := xj_add_some h
                  simp only [Prod.mk.injEq] at e2
                  obtain ⟨rfl, rfl, rfl, rfl⟩ := e2
                  intro H locs la hl9 hP hD hS
                  refine xj_new hx hb hown hts (fun q hq => Nat.le_trans hsz hq) hF.1 hP hD hS (gn mi) gr hdec hk hwok hl9 hsf (by omega) (by omega) fun q H1 hl1 hP1 hD1 hS1 => ?_
                  have hup : xj_ag w.1.length ad (va_up ad w.1.length q) := xj_ag_up (xj_wok_lt hwok)
                  have hgo := ih d mi nx ls (.ref w.1.length :: rest) (xj_nxt w sh) o w' c2 z2 e1 D cA sz p e R s m args below meth c (cells + 1) (slots + z0) n0 Q ad0 (va_up ad w.1.length q) hAt' (hF.ag gv hup) hsz (by simp only [xj_nxt, List.length_append]; omega) (hag.trans hn0 hup) hRf hRl (by omega) (by omega) (by rw [Nat.add_assoc, Nat.add_assoc]; exact hFin)
                  exact hgo H1 locs la hl1 hP1 hD1 hS1
                · cases h
end
section
/-! our tables, and what is checked of them by program -/
def xj_chkR (cc : ByteArray) (nL : Nat) (tab : Nat → Option (Instr × Nat)) (lo n : Nat) : Bool := (List.range n).all fun j => match tab (lo + j) with
  | none => true
  | some (i, nx) => match decode cc (lo + j) with
    | .ok (k, ln) => decide (k = i) && xj_fit nL i (lo + j) nx ln
    | .error _ => false
theorem xj_chkR_ok {cc : ByteArray} {nL lo n : Nat} {tab : Nat → Option (Instr × Nat)} (h : xj_chkR cc nL tab lo n = true) {pc nx : Nat} {i : Instr} (h1 : lo ≤ pc) (h2 : pc < lo + n) (ht : tab pc = some (i, nx)) : xj_dec cc nL pc i nx := by
  have h3 := List.all_eq_true.mp h (pc - lo) (List.mem_range.mpr (by omega))
  have e : lo + (pc - lo) = pc := by omega
  simp only [e, ht] at h3
  split at h3
  · rename_i j ln hd
    simp only [Bool.and_eq_true, decide_eq_true_eq] at h3
    obtain ⟨rfl, h4⟩ := h3
    exact ⟨ln, hd, h4⟩
  · cases h3
def xj_chk (cc : ByteArray) (nL : Nat) (tab : Nat → Option (Instr × Nat)) (len : Nat) : Bool := (List.range len).all fun pc => match tab pc with
  | none => true
  | some (i, nx) => match decode cc pc with
    | .ok (j, ln) => decide (j = i) && xj_fit nL i pc nx ln
    | .error _ => false
theorem xj_chk_ok {cc : ByteArray} {nL len : Nat} {tab : Nat → Option (Instr × Nat)} (h : xj_chk cc nL tab len = true) (hb : ∀ pc, len ≤ pc → tab pc = none) {pc nx : Nat} {i : Instr} (ht : tab pc = some (i, nx)) : xj_dec cc nL pc i nx := by
  have hl : pc < len := by
    rcases Nat.lt_or_ge pc len with h9 | h9
    · exact h9
    · rw [hb pc h9] at ht; cases ht
  have h1 := List.all_eq_true.mp h pc (List.mem_range.mpr hl)
  simp only [ht] at h1
  split at h1
  · rename_i j ln hd
    simp only [Bool.and_eq_true, decide_eq_true_eq] at h1
    obtain ⟨rfl, h2⟩ := h1
    exact ⟨ln, hd, h2⟩
  · cases h1
theorem xj_cout {α : Type} {a : Option α} {pc len : Nat} (h : len ≤ pc) : cond (Nat.blt pc len) a none = none := by
  have : Nat.blt pc len = false := by
    cases hb : Nat.blt pc len with
    | false => rfl
    | true => have := Nat.le_of_ble_eq_true hb; omega
  rw [this]; rfl
theorem xj_blt {α : Type} {m k : Nat} {a b : Option α} {v : α} (h : cond (Nat.blt m k) a b = some v) : (m < k ∧ a = some v) ∨ (k ≤ m ∧ b = some v) := by
  cases hb : Nat.blt m k with
  | true => rw [hb] at h; exact Or.inl ⟨Nat.le_of_ble_eq_true hb, h⟩
  | false =>
    rw [hb] at h
    refine Or.inr ⟨?_, h⟩
    rcases Nat.lt_or_ge m k with h9 | h9
    · have : Nat.blt m k = true := Nat.ble_eq_true_of_le h9
      rw [this] at hb; cases hb
    · exact h9
theorem xj_beq {α : Type} {m k : Nat} {a : Option α} {v : α} (h : cond (Nat.beq m k) a none = some v) : m = k ∧ a = some v := by
  cases hb : Nat.beq m k with
  | true => rw [hb] at h; exact ⟨Nat.eq_of_beq_eq_true hb, h⟩
  | false => rw [hb] at h; cases h
theorem xj_lku {α : Type} {k : Nat} {v : α} : ∀ {ls : List (Nat × α)}, ls.lookup k = some v → (k, v) ∈ ls
  | [], h => by simp at h
  | (a, b) :: r, h => by
    rw [List.lookup_cons] at h
    by_cases hk : (k == a) = true
    · simp only [hk] at h
      have e : k = a := by simpa using hk
      cases h
      subst e
      exact List.mem_cons_self
    · have e : (k == a) = false := by simpa using hk
      simp only [e] at h
      exact List.mem_cons_of_mem _ (xj_lku h)
end
section
/-! code of our methods -/
-- CaseDeskLaw.law([I)Z
def xc_0 : Nat → Option (Instr × Nat) := fun pc => cond (Nat.blt pc 835) (cond (Nat.blt pc 453) (cond (Nat.blt pc 264) (cond (Nat.blt pc 161) (cond (Nat.blt pc 116) (cond (Nat.blt pc 27) (cond (Nat.blt pc 16) (cond (Nat.blt pc 8) (cond (Nat.blt pc 4) (cond (Nat.blt pc 3) (cond (Nat.beq pc 0) (some (.new 8, 3)) none) (cond (Nat.beq pc 3) (some (.dup, 4)) none)) (cond (Nat.blt pc 7) (cond (Nat.beq pc 4) (some (.invokespecial 43, 7)) none) (cond (Nat.beq pc 7) (some (.astore_n 1, 8)) none))) (cond (Nat.blt pc 12) (cond (Nat.blt pc 11) (cond (Nat.beq pc 8) (some (.new 44, 11)) none) (cond (Nat.beq pc 11) (some (.dup, 12)) none)) (cond (Nat.blt pc 15) (cond (Nat.beq pc 12) (some (.invokespecial 46, 15)) none) (cond (Nat.beq pc 15) (some (.astore_n 2, 16)) none)))) (cond (Nat.blt pc 21) (cond (Nat.blt pc 19) (cond (Nat.blt pc 17) (cond (Nat.beq pc 16) (some (.iconst 1, 17)) none) (cond (Nat.beq pc 17) (some (.newarray .long, 19)) none)) (cond (Nat.blt pc 20) (cond (Nat.beq pc 19) (some (.astore_n 3, 20)) none) (cond (Nat.beq pc 20) (some (.iconst 0, 21)) none))) (cond (Nat.blt pc 25) (cond (Nat.blt pc 23) (cond (Nat.beq pc 21) (some (.istore 4, 23)) none) (cond (Nat.beq pc 23) (some (.iload 4, 25)) none)) (cond (Nat.blt pc 26) (cond (Nat.beq pc 25) (some (.aload_n 0, 26)) none) (cond (Nat.beq pc 26) (some (.arraylength, 27)) none))))) (cond (Nat.blt pc 39) (cond (Nat.blt pc 33) (cond (Nat.blt pc 29) (cond (Nat.blt pc 28) (cond (Nat.beq pc 27) (some (.iconst 5, 28)) none) (cond (Nat.beq pc 28) (some (.isub, 29)) none)) (cond (Nat.blt pc 32) (cond (Nat.beq pc 29) (some (.if_icmp .gt 804, 833)) none) (cond (Nat.beq pc 32) (some (.aload_n 0, 33)) none))) (cond (Nat.blt pc 36) (cond (Nat.blt pc 35) (cond (Nat.beq pc 33) (some (.iload 4, 35)) none) (cond (Nat.beq pc 35) (some (.iaload, 36)) none)) (cond (Nat.blt pc 38) (cond (Nat.beq pc 36) (some (.bipush 15, 38)) none) (cond (Nat.beq pc 38) (some (.iand, 39)) none)))) (cond (Nat.blt pc 112) (cond (Nat.blt pc 109) (cond (Nat.blt pc 108) (cond (Nat.beq pc 39) (some (.tableswitch 788 0 13 #[69, 149, 233, 313, 385, 441, 509, 577, 602, 615, 652, 701, 738, 751], 108)) none) (cond (Nat.beq pc 108) (some (.aload_n 1, 109)) none)) (cond (Nat.blt pc 110) (cond (Nat.beq pc 109) (some (.aload_n 0, 110)) none) (cond (Nat.beq pc 110) (some (.iload 4, 112)) none))) (cond (Nat.blt pc 114) (cond (Nat.blt pc 113) (cond (Nat.beq pc 112) (some (.iconst 1, 113)) none) (cond (Nat.beq pc 113) (some (.iadd, 114)) none)) (cond (Nat.blt pc 115) (cond (Nat.beq pc 114) (some (.iaload, 115)) none) (cond (Nat.beq pc 115) (some (.aload_n 0, 116)) none)))))) (cond (Nat.blt pc 138) (cond (Nat.blt pc 126) (cond (Nat.blt pc 121) (cond (Nat.blt pc 119) (cond (Nat.blt pc 118) (cond (Nat.beq pc 116) (some (.iload 4, 118)) none) (cond (Nat.beq pc 118) (some (.iconst 2, 119)) none)) (cond (Nat.blt pc 120) (cond (Nat.beq pc 119) (some (.iadd, 120)) none) (cond (Nat.beq pc 120) (some (.iaload, 121)) none))) (cond (Nat.blt pc 124) (cond (Nat.blt pc 122) (cond (Nat.beq pc 121) (some (.aload_n 0, 122)) none) (cond (Nat.beq pc 122) (some (.iload 4, 124)) none)) (cond (Nat.blt pc 125) (cond (Nat.beq pc 124) (some (.iconst 3, 125)) none) (cond (Nat.beq pc 125) (some (.iadd, 126)) none)))) (cond (Nat.blt pc 133) (cond (Nat.blt pc 128) (cond (Nat.blt pc 127) (cond (Nat.beq pc 126) (some (.iaload, 127)) none) (cond (Nat.beq pc 127) (some (.aload_n 3, 128)) none)) (cond (Nat.blt pc 131) (cond (Nat.beq pc 128) (some (.invokestatic 47, 131)) none) (cond (Nat.beq pc 131) (some (.istore 5, 133)) none))) (cond (Nat.blt pc 135) (cond (Nat.blt pc 134) (cond (Nat.beq pc 133) (some (.aload_n 2, 134)) none) (cond (Nat.beq pc 134) (some (.aload_n 0, 135)) none)) (cond (Nat.blt pc 137) (cond (Nat.beq pc 135) (some (.iload 4, 137)) none) (cond (Nat.beq pc 137) (some (.iconst 1, 138)) none))))) (cond (Nat.blt pc 147) (cond (Nat.blt pc 143) (cond (Nat.blt pc 140) (cond (Nat.blt pc 139) (cond (Nat.beq pc 138) (some (.iadd, 139)) none) (cond (Nat.beq pc 139) (some (.iaload, 140)) none)) (cond (Nat.blt pc 141) (cond (Nat.beq pc 140) (some (.aload_n 0, 141)) none) (cond (Nat.beq pc 141) (some (.iload 4, 143)) none))) (cond (Nat.blt pc 145) (cond (Nat.blt pc 144) (cond (Nat.beq pc 143) (some (.iconst 2, 144)) none) (cond (Nat.beq pc 144) (some (.iadd, 145)) none)) (cond (Nat.blt pc 146) (cond (Nat.beq pc 145) (some (.iaload, 146)) none) (cond (Nat.beq pc 146) (some (.aload_n 0, 147)) none)))) (cond (Nat.blt pc 152) (cond (Nat.blt pc 150) (cond (Nat.blt pc 149) (cond (Nat.beq pc 147) (some (.iload 4, 149)) none) (cond (Nat.beq pc 149) (some (.iconst 3, 150)) none)) (cond (Nat.blt pc 151) (cond (Nat.beq pc 150) (some (.iadd, 151)) none) (cond (Nat.beq pc 151) (some (.iaload, 152)) none))) (cond (Nat.blt pc 157) (cond (Nat.blt pc 155) (cond (Nat.beq pc 152) (some (.invokevirtual 52, 155)) none) (cond (Nat.beq pc 155) (some (.istore 6, 157)) none)) (cond (Nat.blt pc 158) (cond (Nat.beq pc 157) (some (.aload_n 2, 158)) none) (cond (Nat.beq pc 158) (some (.invokevirtual 53, 161)) none))))))) (cond (Nat.blt pc 210) (cond (Nat.blt pc 188) (cond (Nat.blt pc 175) (cond (Nat.blt pc 168) (cond (Nat.blt pc 166) (cond (Nat.blt pc 163) (cond (Nat.beq pc 161) (some (.iload 5, 163)) none) (cond (Nat.beq pc 163) (some (.if_icmp .eq 5, 168)) none)) (cond (Nat.blt pc 167) (cond (Nat.beq pc 166) (some (.iconst 0, 167)) none) (cond (Nat.beq pc 167) (some (.ireturn, 168)) none))) (cond (Nat.blt pc 173) (cond (Nat.blt pc 170) (cond (Nat.beq pc 168) (some (.iload 5, 170)) none) (cond (Nat.beq pc 170) (some (.ifCond .ne 15, 185)) none)) (cond (Nat.blt pc 174) (cond (Nat.beq pc 173) (some (.aload_n 3, 174)) none) (cond (Nat.beq pc 174) (some (.iconst 0, 175)) none)))) (cond (Nat.blt pc 180) (cond (Nat.blt pc 178) (cond (Nat.blt pc 176) (cond (Nat.beq pc 175) (some (.laload, 176)) none) (cond (Nat.beq pc 176) (some (.iload 6, 178)) none)) (cond (Nat.blt pc 179) (cond (Nat.beq pc 178) (some (.i2l, 179)) none) (cond (Nat.beq pc 179) (some (.lcmp, 180)) none))) (cond (Nat.blt pc 184) (cond (Nat.blt pc 183) (cond (Nat.beq pc 180) (some (.ifCond .eq 5, 185)) none) (cond (Nat.beq pc 183) (some (.iconst 0, 184)) none)) (cond (Nat.blt pc 185) (cond (Nat.beq pc 184) (some (.ireturn, 185)) none) (cond (Nat.beq pc 185) (some (.goto 642, 827)) none))))) (cond (Nat.blt pc 198) (cond (Nat.blt pc 193) (cond (Nat.blt pc 190) (cond (Nat.blt pc 189) (cond (Nat.beq pc 188) (some (.aload_n 1, 189)) none) (cond (Nat.beq pc 189) (some (.aload_n 0, 190)) none)) (cond (Nat.blt pc 192) (cond (Nat.beq pc 190) (some (.iload 4, 192)) none) (cond (Nat.beq pc 192) (some (.iconst 1, 193)) none))) (cond (Nat.blt pc 195) (cond (Nat.blt pc 194) (cond (Nat.beq pc 193) (some (.iadd, 194)) none) (cond (Nat.beq pc 194) (some (.iaload, 195)) none)) (cond (Nat.blt pc 196) (cond (Nat.beq pc 195) (some (.aload_n 0, 196)) none) (cond (Nat.beq pc 196) (some (.iload 4, 198)) none)))) (cond (Nat.blt pc 204) (cond (Nat.blt pc 200) (cond (Nat.blt pc 199) (cond (Nat.beq pc 198) (some (.iconst 2, 199)) none) (cond (Nat.beq pc 199) (some (.iadd, 200)) none)) (cond (Nat.blt pc 201) (cond (Nat.beq pc 200) (some (.iaload, 201)) none) (cond (Nat.beq pc 201) (some (.ifCond .eq 7, 208)) none))) (cond (Nat.blt pc 208) (cond (Nat.blt pc 205) (cond (Nat.beq pc 204) (some (.iconst 1, 205)) none) (cond (Nat.beq pc 205) (some (.goto 4, 209)) none)) (cond (Nat.blt pc 209) (cond (Nat.beq pc 208) (some (.iconst 0, 209)) none) (cond (Nat.beq pc 209) (some (.aload_n 3, 210)) none)))))) (cond (Nat.blt pc 235) (cond (Nat.blt pc 222) (cond (Nat.blt pc 217) (cond (Nat.blt pc 215) (cond (Nat.blt pc 213) (cond (Nat.beq pc 210) (some (.invokestatic 57, 213)) none) (cond (Nat.beq pc 213) (some (.istore 5, 215)) none)) (cond (Nat.blt pc 216) (cond (Nat.beq pc 215) (some (.aload_n 2, 216)) none) (cond (Nat.beq pc 216) (some (.aload_n 0, 217)) none))) (cond (Nat.blt pc 220) (cond (Nat.blt pc 219) (cond (Nat.beq pc 217) (some (.iload 4, 219)) none) (cond (Nat.beq pc 219) (some (.iconst 1, 220)) none)) (cond (Nat.blt pc 221) (cond (Nat.beq pc 220) (some (.iadd, 221)) none) (cond (Nat.beq pc 221) (some (.iaload, 222)) none)))) (cond (Nat.blt pc 227) (cond (Nat.blt pc 225) (cond (Nat.blt pc 223) (cond (Nat.beq pc 222) (some (.aload_n 0, 223)) none) (cond (Nat.beq pc 223) (some (.iload 4, 225)) none)) (cond (Nat.blt pc 226) (cond (Nat.beq pc 225) (some (.iconst 2, 226)) none) (cond (Nat.beq pc 226) (some (.iadd, 227)) none))) (cond (Nat.blt pc 231) (cond (Nat.blt pc 228) (cond (Nat.beq pc 227) (some (.iaload, 228)) none) (cond (Nat.beq pc 228) (some (.ifCond .eq 7, 235)) none)) (cond (Nat.blt pc 232) (cond (Nat.beq pc 231) (some (.iconst 1, 232)) none) (cond (Nat.beq pc 232) (some (.goto 4, 236)) none))))) (cond (Nat.blt pc 251) (cond (Nat.blt pc 242) (cond (Nat.blt pc 239) (cond (Nat.blt pc 236) (cond (Nat.beq pc 235) (some (.iconst 0, 236)) none) (cond (Nat.beq pc 236) (some (.invokevirtual 60, 239)) none)) (cond (Nat.blt pc 241) (cond (Nat.beq pc 239) (some (.istore 6, 241)) none) (cond (Nat.beq pc 241) (some (.aload_n 2, 242)) none))) (cond (Nat.blt pc 247) (cond (Nat.blt pc 245) (cond (Nat.beq pc 242) (some (.invokevirtual 53, 245)) none) (cond (Nat.beq pc 245) (some (.iload 5, 247)) none)) (cond (Nat.blt pc 250) (cond (Nat.beq pc 247) (some (.if_icmp .eq 5, 252)) none) (cond (Nat.beq pc 250) (some (.iconst 0, 251)) none)))) (cond (Nat.blt pc 258) (cond (Nat.blt pc 254) (cond (Nat.blt pc 252) (cond (Nat.beq pc 251) (some (.ireturn, 252)) none) (cond (Nat.beq pc 252) (some (.iload 5, 254)) none)) (cond (Nat.blt pc 257) (cond (Nat.beq pc 254) (some (.ifCond .ne 15, 269)) none) (cond (Nat.beq pc 257) (some (.aload_n 3, 258)) none))) (cond (Nat.blt pc 260) (cond (Nat.blt pc 259) (cond (Nat.beq pc 258) (some (.iconst 0, 259)) none) (cond (Nat.beq pc 259) (some (.laload, 260)) none)) (cond (Nat.blt pc 262) (cond (Nat.beq pc 260) (some (.iload 6, 262)) none) (cond (Nat.blt pc 263) (cond (Nat.beq pc 262) (some (.i2l, 263)) none) (cond (Nat.beq pc 263) (some (.lcmp, 264)) none))))))))) (cond (Nat.blt pc 359) (cond (Nat.blt pc 308) (cond (Nat.blt pc 286) (cond (Nat.blt pc 277) (cond (Nat.blt pc 272) (cond (Nat.blt pc 268) (cond (Nat.blt pc 267) (cond (Nat.beq pc 264) (some (.ifCond .eq 5, 269)) none) (cond (Nat.beq pc 267) (some (.iconst 0, 268)) none)) (cond (Nat.blt pc 269) (cond (Nat.beq pc 268) (some (.ireturn, 269)) none) (cond (Nat.beq pc 269) (some (.goto 558, 827)) none))) (cond (Nat.blt pc 274) (cond (Nat.blt pc 273) (cond (Nat.beq pc 272) (some (.aload_n 1, 273)) none) (cond (Nat.beq pc 273) (some (.aload_n 0, 274)) none)) (cond (Nat.blt pc 276) (cond (Nat.beq pc 274) (some (.iload 4, 276)) none) (cond (Nat.beq pc 276) (some (.iconst 1, 277)) none)))) (cond (Nat.blt pc 282) (cond (Nat.blt pc 279) (cond (Nat.blt pc 278) (cond (Nat.beq pc 277) (some (.iadd, 278)) none) (cond (Nat.beq pc 278) (some (.iaload, 279)) none)) (cond (Nat.blt pc 280) (cond (Nat.beq pc 279) (some (.aload_n 0, 280)) none) (cond (Nat.beq pc 280) (some (.iload 4, 282)) none))) (cond (Nat.blt pc 284) (cond (Nat.blt pc 283) (cond (Nat.beq pc 282) (some (.iconst 2, 283)) none) (cond (Nat.beq pc 283) (some (.iadd, 284)) none)) (cond (Nat.blt pc 285) (cond (Nat.beq pc 284) (some (.iaload, 285)) none) (cond (Nat.beq pc 285) (some (.aload_n 0, 286)) none))))) (cond (Nat.blt pc 298) (cond (Nat.blt pc 291) (cond (Nat.blt pc 289) (cond (Nat.blt pc 288) (cond (Nat.beq pc 286) (some (.iload 4, 288)) none) (cond (Nat.beq pc 288) (some (.iconst 3, 289)) none)) (cond (Nat.blt pc 290) (cond (Nat.beq pc 289) (some (.iadd, 290)) none) (cond (Nat.beq pc 290) (some (.iaload, 291)) none))) (cond (Nat.blt pc 295) (cond (Nat.blt pc 292) (cond (Nat.beq pc 291) (some (.aload_n 3, 292)) none) (cond (Nat.beq pc 292) (some (.invokestatic 61, 295)) none)) (cond (Nat.blt pc 297) (cond (Nat.beq pc 295) (some (.istore 5, 297)) none) (cond (Nat.beq pc 297) (some (.aload_n 2, 298)) none)))) (cond (Nat.blt pc 303) (cond (Nat.blt pc 301) (cond (Nat.blt pc 299) (cond (Nat.beq pc 298) (some (.aload_n 0, 299)) none) (cond (Nat.beq pc 299) (some (.iload 4, 301)) none)) (cond (Nat.blt pc 302) (cond (Nat.beq pc 301) (some (.iconst 1, 302)) none) (cond (Nat.beq pc 302) (some (.iadd, 303)) none))) (cond (Nat.blt pc 305) (cond (Nat.blt pc 304) (cond (Nat.beq pc 303) (some (.iaload, 304)) none) (cond (Nat.beq pc 304) (some (.aload_n 0, 305)) none)) (cond (Nat.blt pc 307) (cond (Nat.beq pc 305) (some (.iload 4, 307)) none) (cond (Nat.beq pc 307) (some (.iconst 2, 308)) none)))))) (cond (Nat.blt pc 334) (cond (Nat.blt pc 319) (cond (Nat.blt pc 313) (cond (Nat.blt pc 310) (cond (Nat.blt pc 309) (cond (Nat.beq pc 308) (some (.iadd, 309)) none) (cond (Nat.beq pc 309) (some (.iaload, 310)) none)) (cond (Nat.blt pc 311) (cond (Nat.beq pc 310) (some (.aload_n 0, 311)) none) (cond (Nat.beq pc 311) (some (.iload 4, 313)) none))) (cond (Nat.blt pc 315) (cond (Nat.blt pc 314) (cond (Nat.beq pc 313) (some (.iconst 3, 314)) none) (cond (Nat.beq pc 314) (some (.iadd, 315)) none)) (cond (Nat.blt pc 316) (cond (Nat.beq pc 315) (some (.iaload, 316)) none) (cond (Nat.beq pc 316) (some (.invokevirtual 63, 319)) none)))) (cond (Nat.blt pc 327) (cond (Nat.blt pc 322) (cond (Nat.blt pc 321) (cond (Nat.beq pc 319) (some (.istore 6, 321)) none) (cond (Nat.beq pc 321) (some (.aload_n 2, 322)) none)) (cond (Nat.blt pc 325) (cond (Nat.beq pc 322) (some (.invokevirtual 53, 325)) none) (cond (Nat.beq pc 325) (some (.iload 5, 327)) none))) (cond (Nat.blt pc 331) (cond (Nat.blt pc 330) (cond (Nat.beq pc 327) (some (.if_icmp .eq 5, 332)) none) (cond (Nat.beq pc 330) (some (.iconst 0, 331)) none)) (cond (Nat.blt pc 332) (cond (Nat.beq pc 331) (some (.ireturn, 332)) none) (cond (Nat.beq pc 332) (some (.iload 5, 334)) none))))) (cond (Nat.blt pc 347) (cond (Nat.blt pc 340) (cond (Nat.blt pc 338) (cond (Nat.blt pc 337) (cond (Nat.beq pc 334) (some (.ifCond .ne 15, 349)) none) (cond (Nat.beq pc 337) (some (.aload_n 3, 338)) none)) (cond (Nat.blt pc 339) (cond (Nat.beq pc 338) (some (.iconst 0, 339)) none) (cond (Nat.beq pc 339) (some (.laload, 340)) none))) (cond (Nat.blt pc 343) (cond (Nat.blt pc 342) (cond (Nat.beq pc 340) (some (.iload 6, 342)) none) (cond (Nat.beq pc 342) (some (.i2l, 343)) none)) (cond (Nat.blt pc 344) (cond (Nat.beq pc 343) (some (.lcmp, 344)) none) (cond (Nat.beq pc 344) (some (.ifCond .eq 5, 349)) none)))) (cond (Nat.blt pc 353) (cond (Nat.blt pc 349) (cond (Nat.blt pc 348) (cond (Nat.beq pc 347) (some (.iconst 0, 348)) none) (cond (Nat.beq pc 348) (some (.ireturn, 349)) none)) (cond (Nat.blt pc 352) (cond (Nat.beq pc 349) (some (.goto 478, 827)) none) (cond (Nat.beq pc 352) (some (.aload_n 1, 353)) none))) (cond (Nat.blt pc 356) (cond (Nat.blt pc 354) (cond (Nat.beq pc 353) (some (.aload_n 0, 354)) none) (cond (Nat.beq pc 354) (some (.iload 4, 356)) none)) (cond (Nat.blt pc 357) (cond (Nat.beq pc 356) (some (.iconst 1, 357)) none) (cond (Nat.blt pc 358) (cond (Nat.beq pc 357) (some (.iadd, 358)) none) (cond (Nat.beq pc 358) (some (.iaload, 359)) none)))))))) (cond (Nat.blt pc 400) (cond (Nat.blt pc 380) (cond (Nat.blt pc 369) (cond (Nat.blt pc 364) (cond (Nat.blt pc 362) (cond (Nat.blt pc 360) (cond (Nat.beq pc 359) (some (.aload_n 0, 360)) none) (cond (Nat.beq pc 360) (some (.iload 4, 362)) none)) (cond (Nat.blt pc 363) (cond (Nat.beq pc 362) (some (.iconst 2, 363)) none) (cond (Nat.beq pc 363) (some (.iadd, 364)) none))) (cond (Nat.blt pc 366) (cond (Nat.blt pc 365) (cond (Nat.beq pc 364) (some (.iaload, 365)) none) (cond (Nat.beq pc 365) (some (.aload_n 0, 366)) none)) (cond (Nat.blt pc 368) (cond (Nat.beq pc 366) (some (.iload 4, 368)) none) (cond (Nat.beq pc 368) (some (.iconst 3, 369)) none)))) (cond (Nat.blt pc 374) (cond (Nat.blt pc 371) (cond (Nat.blt pc 370) (cond (Nat.beq pc 369) (some (.iadd, 370)) none) (cond (Nat.beq pc 370) (some (.iaload, 371)) none)) (cond (Nat.blt pc 372) (cond (Nat.beq pc 371) (some (.aload_n 0, 372)) none) (cond (Nat.beq pc 372) (some (.iload 4, 374)) none))) (cond (Nat.blt pc 376) (cond (Nat.blt pc 375) (cond (Nat.beq pc 374) (some (.iconst 4, 375)) none) (cond (Nat.beq pc 375) (some (.iadd, 376)) none)) (cond (Nat.blt pc 377) (cond (Nat.beq pc 376) (some (.iaload, 377)) none) (cond (Nat.beq pc 377) (some (.invokestatic 64, 380)) none))))) (cond (Nat.blt pc 390) (cond (Nat.blt pc 386) (cond (Nat.blt pc 383) (cond (Nat.blt pc 382) (cond (Nat.beq pc 380) (some (.istore 5, 382)) none) (cond (Nat.beq pc 382) (some (.aload_n 2, 383)) none)) (cond (Nat.blt pc 384) (cond (Nat.beq pc 383) (some (.aload_n 0, 384)) none) (cond (Nat.beq pc 384) (some (.iload 4, 386)) none))) (cond (Nat.blt pc 388) (cond (Nat.blt pc 387) (cond (Nat.beq pc 386) (some (.iconst 1, 387)) none) (cond (Nat.beq pc 387) (some (.iadd, 388)) none)) (cond (Nat.blt pc 389) (cond (Nat.beq pc 388) (some (.iaload, 389)) none) (cond (Nat.beq pc 389) (some (.aload_n 0, 390)) none)))) (cond (Nat.blt pc 395) (cond (Nat.blt pc 393) (cond (Nat.blt pc 392) (cond (Nat.beq pc 390) (some (.iload 4, 392)) none) (cond (Nat.beq pc 392) (some (.iconst 2, 393)) none)) (cond (Nat.blt pc 394) (cond (Nat.beq pc 393) (some (.iadd, 394)) none) (cond (Nat.beq pc 394) (some (.iaload, 395)) none))) (cond (Nat.blt pc 398) (cond (Nat.blt pc 396) (cond (Nat.beq pc 395) (some (.aload_n 0, 396)) none) (cond (Nat.beq pc 396) (some (.iload 4, 398)) none)) (cond (Nat.blt pc 399) (cond (Nat.beq pc 398) (some (.iconst 3, 399)) none) (cond (Nat.beq pc 399) (some (.iadd, 400)) none)))))) (cond (Nat.blt pc 426) (cond (Nat.blt pc 411) (cond (Nat.blt pc 405) (cond (Nat.blt pc 402) (cond (Nat.blt pc 401) (cond (Nat.beq pc 400) (some (.iaload, 401)) none) (cond (Nat.beq pc 401) (some (.aload_n 0, 402)) none)) (cond (Nat.blt pc 404) (cond (Nat.beq pc 402) (some (.iload 4, 404)) none) (cond (Nat.beq pc 404) (some (.iconst 4, 405)) none))) (cond (Nat.blt pc 407) (cond (Nat.blt pc 406) (cond (Nat.beq pc 405) (some (.iadd, 406)) none) (cond (Nat.beq pc 406) (some (.iaload, 407)) none)) (cond (Nat.blt pc 410) (cond (Nat.beq pc 407) (some (.invokevirtual 67, 410)) none) (cond (Nat.beq pc 410) (some (.aload_n 2, 411)) none)))) (cond (Nat.blt pc 420) (cond (Nat.blt pc 416) (cond (Nat.blt pc 414) (cond (Nat.beq pc 411) (some (.invokevirtual 53, 414)) none) (cond (Nat.beq pc 414) (some (.iload 5, 416)) none)) (cond (Nat.blt pc 419) (cond (Nat.beq pc 416) (some (.if_icmp .eq 5, 421)) none) (cond (Nat.beq pc 419) (some (.iconst 0, 420)) none))) (cond (Nat.blt pc 424) (cond (Nat.blt pc 421) (cond (Nat.beq pc 420) (some (.ireturn, 421)) none) (cond (Nat.beq pc 421) (some (.goto 406, 827)) none)) (cond (Nat.blt pc 425) (cond (Nat.beq pc 424) (some (.aload_n 1, 425)) none) (cond (Nat.beq pc 425) (some (.aload_n 0, 426)) none))))) (cond (Nat.blt pc 438) (cond (Nat.blt pc 431) (cond (Nat.blt pc 429) (cond (Nat.blt pc 428) (cond (Nat.beq pc 426) (some (.iload 4, 428)) none) (cond (Nat.beq pc 428) (some (.iconst 1, 429)) none)) (cond (Nat.blt pc 430) (cond (Nat.beq pc 429) (some (.iadd, 430)) none) (cond (Nat.beq pc 430) (some (.iaload, 431)) none))) (cond (Nat.blt pc 435) (cond (Nat.blt pc 432) (cond (Nat.beq pc 431) (some (.aload_n 3, 432)) none) (cond (Nat.beq pc 432) (some (.invokestatic 68, 435)) none)) (cond (Nat.blt pc 437) (cond (Nat.beq pc 435) (some (.istore 5, 437)) none) (cond (Nat.beq pc 437) (some (.aload_n 2, 438)) none)))) (cond (Nat.blt pc 443) (cond (Nat.blt pc 441) (cond (Nat.blt pc 439) (cond (Nat.beq pc 438) (some (.aload_n 0, 439)) none) (cond (Nat.beq pc 439) (some (.iload 4, 441)) none)) (cond (Nat.blt pc 442) (cond (Nat.beq pc 441) (some (.iconst 1, 442)) none) (cond (Nat.beq pc 442) (some (.iadd, 443)) none))) (cond (Nat.blt pc 447) (cond (Nat.blt pc 444) (cond (Nat.beq pc 443) (some (.iaload, 444)) none) (cond (Nat.beq pc 444) (some (.invokevirtual 71, 447)) none)) (cond (Nat.blt pc 449) (cond (Nat.beq pc 447) (some (.istore 6, 449)) none) (cond (Nat.blt pc 450) (cond (Nat.beq pc 449) (some (.aload_n 2, 450)) none) (cond (Nat.beq pc 450) (some (.invokevirtual 53, 453)) none)))))))))) (cond (Nat.blt pc 653) (cond (Nat.blt pc 552) (cond (Nat.blt pc 501) (cond (Nat.blt pc 480) (cond (Nat.blt pc 467) (cond (Nat.blt pc 460) (cond (Nat.blt pc 458) (cond (Nat.blt pc 455) (cond (Nat.beq pc 453) (some (.iload 5, 455)) none) (cond (Nat.beq pc 455) (some (.if_icmp .eq 5, 460)) none)) (cond (Nat.blt pc 459) (cond (Nat.beq pc 458) (some (.iconst 0, 459)) none) (cond (Nat.beq pc 459) (some (.ireturn, 460)) none))) (cond (Nat.blt pc 465) (cond (Nat.blt pc 462) (cond (Nat.beq pc 460) (some (.iload 5, 462)) none) (cond (Nat.beq pc 462) (some (.ifCond .ne 15, 477)) none)) (cond (Nat.blt pc 466) (cond (Nat.beq pc 465) (some (.aload_n 3, 466)) none) (cond (Nat.beq pc 466) (some (.iconst 0, 467)) none)))) (cond (Nat.blt pc 472) (cond (Nat.blt pc 470) (cond (Nat.blt pc 468) (cond (Nat.beq pc 467) (some (.laload, 468)) none) (cond (Nat.beq pc 468) (some (.iload 6, 470)) none)) (cond (Nat.blt pc 471) (cond (Nat.beq pc 470) (some (.i2l, 471)) none) (cond (Nat.beq pc 471) (some (.lcmp, 472)) none))) (cond (Nat.blt pc 476) (cond (Nat.blt pc 475) (cond (Nat.beq pc 472) (some (.ifCond .eq 5, 477)) none) (cond (Nat.beq pc 475) (some (.iconst 0, 476)) none)) (cond (Nat.blt pc 477) (cond (Nat.beq pc 476) (some (.ireturn, 477)) none) (cond (Nat.beq pc 477) (some (.goto 350, 827)) none))))) (cond (Nat.blt pc 490) (cond (Nat.blt pc 485) (cond (Nat.blt pc 482) (cond (Nat.blt pc 481) (cond (Nat.beq pc 480) (some (.aload_n 1, 481)) none) (cond (Nat.beq pc 481) (some (.aload_n 0, 482)) none)) (cond (Nat.blt pc 484) (cond (Nat.beq pc 482) (some (.iload 4, 484)) none) (cond (Nat.beq pc 484) (some (.iconst 1, 485)) none))) (cond (Nat.blt pc 487) (cond (Nat.blt pc 486) (cond (Nat.beq pc 485) (some (.iadd, 486)) none) (cond (Nat.beq pc 486) (some (.iaload, 487)) none)) (cond (Nat.blt pc 488) (cond (Nat.beq pc 487) (some (.aload_n 0, 488)) none) (cond (Nat.beq pc 488) (some (.iload 4, 490)) none)))) (cond (Nat.blt pc 494) (cond (Nat.blt pc 492) (cond (Nat.blt pc 491) (cond (Nat.beq pc 490) (some (.iconst 2, 491)) none) (cond (Nat.beq pc 491) (some (.iadd, 492)) none)) (cond (Nat.blt pc 493) (cond (Nat.beq pc 492) (some (.iaload, 493)) none) (cond (Nat.beq pc 493) (some (.aload_n 3, 494)) none))) (cond (Nat.blt pc 499) (cond (Nat.blt pc 497) (cond (Nat.beq pc 494) (some (.invokestatic 72, 497)) none) (cond (Nat.beq pc 497) (some (.istore 5, 499)) none)) (cond (Nat.blt pc 500) (cond (Nat.beq pc 499) (some (.aload_n 2, 500)) none) (cond (Nat.beq pc 500) (some (.aload_n 0, 501)) none)))))) (cond (Nat.blt pc 527) (cond (Nat.blt pc 511) (cond (Nat.blt pc 506) (cond (Nat.blt pc 504) (cond (Nat.blt pc 503) (cond (Nat.beq pc 501) (some (.iload 4, 503)) none) (cond (Nat.beq pc 503) (some (.iconst 1, 504)) none)) (cond (Nat.blt pc 505) (cond (Nat.beq pc 504) (some (.iadd, 505)) none) (cond (Nat.beq pc 505) (some (.iaload, 506)) none))) (cond (Nat.blt pc 509) (cond (Nat.blt pc 507) (cond (Nat.beq pc 506) (some (.aload_n 0, 507)) none) (cond (Nat.beq pc 507) (some (.iload 4, 509)) none)) (cond (Nat.blt pc 510) (cond (Nat.beq pc 509) (some (.iconst 2, 510)) none) (cond (Nat.beq pc 510) (some (.iadd, 511)) none)))) (cond (Nat.blt pc 518) (cond (Nat.blt pc 515) (cond (Nat.blt pc 512) (cond (Nat.beq pc 511) (some (.iaload, 512)) none) (cond (Nat.beq pc 512) (some (.invokevirtual 75, 515)) none)) (cond (Nat.blt pc 517) (cond (Nat.beq pc 515) (some (.istore 6, 517)) none) (cond (Nat.beq pc 517) (some (.aload_n 2, 518)) none))) (cond (Nat.blt pc 523) (cond (Nat.blt pc 521) (cond (Nat.beq pc 518) (some (.invokevirtual 53, 521)) none) (cond (Nat.beq pc 521) (some (.iload 5, 523)) none)) (cond (Nat.blt pc 526) (cond (Nat.beq pc 523) (some (.if_icmp .eq 5, 528)) none) (cond (Nat.beq pc 526) (some (.iconst 0, 527)) none))))) (cond (Nat.blt pc 539) (cond (Nat.blt pc 534) (cond (Nat.blt pc 530) (cond (Nat.blt pc 528) (cond (Nat.beq pc 527) (some (.ireturn, 528)) none) (cond (Nat.beq pc 528) (some (.iload 5, 530)) none)) (cond (Nat.blt pc 533) (cond (Nat.beq pc 530) (some (.ifCond .ne 15, 545)) none) (cond (Nat.beq pc 533) (some (.aload_n 3, 534)) none))) (cond (Nat.blt pc 536) (cond (Nat.blt pc 535) (cond (Nat.beq pc 534) (some (.iconst 0, 535)) none) (cond (Nat.beq pc 535) (some (.laload, 536)) none)) (cond (Nat.blt pc 538) (cond (Nat.beq pc 536) (some (.iload 6, 538)) none) (cond (Nat.beq pc 538) (some (.i2l, 539)) none)))) (cond (Nat.blt pc 545) (cond (Nat.blt pc 543) (cond (Nat.blt pc 540) (cond (Nat.beq pc 539) (some (.lcmp, 540)) none) (cond (Nat.beq pc 540) (some (.ifCond .eq 5, 545)) none)) (cond (Nat.blt pc 544) (cond (Nat.beq pc 543) (some (.iconst 0, 544)) none) (cond (Nat.beq pc 544) (some (.ireturn, 545)) none))) (cond (Nat.blt pc 549) (cond (Nat.blt pc 548) (cond (Nat.beq pc 545) (some (.goto 282, 827)) none) (cond (Nat.beq pc 548) (some (.aload_n 1, 549)) none)) (cond (Nat.blt pc 550) (cond (Nat.beq pc 549) (some (.aload_n 0, 550)) none) (cond (Nat.beq pc 550) (some (.iload 4, 552)) none))))))) (cond (Nat.blt pc 601) (cond (Nat.blt pc 573) (cond (Nat.blt pc 561) (cond (Nat.blt pc 556) (cond (Nat.blt pc 554) (cond (Nat.blt pc 553) (cond (Nat.beq pc 552) (some (.iconst 1, 553)) none) (cond (Nat.beq pc 553) (some (.iadd, 554)) none)) (cond (Nat.blt pc 555) (cond (Nat.beq pc 554) (some (.iaload, 555)) none) (cond (Nat.beq pc 555) (some (.aload_n 0, 556)) none))) (cond (Nat.blt pc 559) (cond (Nat.blt pc 558) (cond (Nat.beq pc 556) (some (.iload 4, 558)) none) (cond (Nat.beq pc 558) (some (.iconst 2, 559)) none)) (cond (Nat.blt pc 560) (cond (Nat.beq pc 559) (some (.iadd, 560)) none) (cond (Nat.beq pc 560) (some (.iaload, 561)) none)))) (cond (Nat.blt pc 568) (cond (Nat.blt pc 565) (cond (Nat.blt pc 562) (cond (Nat.beq pc 561) (some (.aload_n 3, 562)) none) (cond (Nat.beq pc 562) (some (.invokestatic 76, 565)) none)) (cond (Nat.blt pc 567) (cond (Nat.beq pc 565) (some (.istore 5, 567)) none) (cond (Nat.beq pc 567) (some (.aload_n 2, 568)) none))) (cond (Nat.blt pc 571) (cond (Nat.blt pc 569) (cond (Nat.beq pc 568) (some (.aload_n 0, 569)) none) (cond (Nat.beq pc 569) (some (.iload 4, 571)) none)) (cond (Nat.blt pc 572) (cond (Nat.beq pc 571) (some (.iconst 1, 572)) none) (cond (Nat.beq pc 572) (some (.iadd, 573)) none))))) (cond (Nat.blt pc 585) (cond (Nat.blt pc 578) (cond (Nat.blt pc 575) (cond (Nat.blt pc 574) (cond (Nat.beq pc 573) (some (.iaload, 574)) none) (cond (Nat.beq pc 574) (some (.aload_n 0, 575)) none)) (cond (Nat.blt pc 577) (cond (Nat.beq pc 575) (some (.iload 4, 577)) none) (cond (Nat.beq pc 577) (some (.iconst 2, 578)) none))) (cond (Nat.blt pc 580) (cond (Nat.blt pc 579) (cond (Nat.beq pc 578) (some (.iadd, 579)) none) (cond (Nat.beq pc 579) (some (.iaload, 580)) none)) (cond (Nat.blt pc 583) (cond (Nat.beq pc 580) (some (.invokevirtual 78, 583)) none) (cond (Nat.beq pc 583) (some (.istore 6, 585)) none)))) (cond (Nat.blt pc 594) (cond (Nat.blt pc 589) (cond (Nat.blt pc 586) (cond (Nat.beq pc 585) (some (.aload_n 2, 586)) none) (cond (Nat.beq pc 586) (some (.invokevirtual 53, 589)) none)) (cond (Nat.blt pc 591) (cond (Nat.beq pc 589) (some (.iload 5, 591)) none) (cond (Nat.beq pc 591) (some (.if_icmp .eq 5, 596)) none))) (cond (Nat.blt pc 596) (cond (Nat.blt pc 595) (cond (Nat.beq pc 594) (some (.iconst 0, 595)) none) (cond (Nat.beq pc 595) (some (.ireturn, 596)) none)) (cond (Nat.blt pc 598) (cond (Nat.beq pc 596) (some (.iload 5, 598)) none) (cond (Nat.beq pc 598) (some (.ifCond .ne 15, 613)) none)))))) (cond (Nat.blt pc 623) (cond (Nat.blt pc 612) (cond (Nat.blt pc 606) (cond (Nat.blt pc 603) (cond (Nat.blt pc 602) (cond (Nat.beq pc 601) (some (.aload_n 3, 602)) none) (cond (Nat.beq pc 602) (some (.iconst 0, 603)) none)) (cond (Nat.blt pc 604) (cond (Nat.beq pc 603) (some (.laload, 604)) none) (cond (Nat.beq pc 604) (some (.iload 6, 606)) none))) (cond (Nat.blt pc 608) (cond (Nat.blt pc 607) (cond (Nat.beq pc 606) (some (.i2l, 607)) none) (cond (Nat.beq pc 607) (some (.lcmp, 608)) none)) (cond (Nat.blt pc 611) (cond (Nat.beq pc 608) (some (.ifCond .eq 5, 613)) none) (cond (Nat.beq pc 611) (some (.iconst 0, 612)) none)))) (cond (Nat.blt pc 618) (cond (Nat.blt pc 616) (cond (Nat.blt pc 613) (cond (Nat.beq pc 612) (some (.ireturn, 613)) none) (cond (Nat.beq pc 613) (some (.goto 214, 827)) none)) (cond (Nat.blt pc 617) (cond (Nat.beq pc 616) (some (.aload_n 1, 617)) none) (cond (Nat.beq pc 617) (some (.aload_n 0, 618)) none))) (cond (Nat.blt pc 621) (cond (Nat.blt pc 620) (cond (Nat.beq pc 618) (some (.iload 4, 620)) none) (cond (Nat.beq pc 620) (some (.iconst 1, 621)) none)) (cond (Nat.blt pc 622) (cond (Nat.beq pc 621) (some (.iadd, 622)) none) (cond (Nat.beq pc 622) (some (.iaload, 623)) none))))) (cond (Nat.blt pc 636) (cond (Nat.blt pc 630) (cond (Nat.blt pc 627) (cond (Nat.blt pc 626) (cond (Nat.beq pc 623) (some (.invokevirtual 79, 626)) none) (cond (Nat.beq pc 626) (some (.aload_n 2, 627)) none)) (cond (Nat.blt pc 628) (cond (Nat.beq pc 627) (some (.aload_n 0, 628)) none) (cond (Nat.beq pc 628) (some (.iload 4, 630)) none))) (cond (Nat.blt pc 632) (cond (Nat.blt pc 631) (cond (Nat.beq pc 630) (some (.iconst 1, 631)) none) (cond (Nat.beq pc 631) (some (.iadd, 632)) none)) (cond (Nat.blt pc 633) (cond (Nat.beq pc 632) (some (.iaload, 633)) none) (cond (Nat.beq pc 633) (some (.invokevirtual 82, 636)) none)))) (cond (Nat.blt pc 642) (cond (Nat.blt pc 640) (cond (Nat.blt pc 639) (cond (Nat.beq pc 636) (some (.if_icmp .eq 191, 827)) none) (cond (Nat.beq pc 639) (some (.iconst 0, 640)) none)) (cond (Nat.blt pc 641) (cond (Nat.beq pc 640) (some (.ireturn, 641)) none) (cond (Nat.beq pc 641) (some (.aload_n 1, 642)) none))) (cond (Nat.blt pc 646) (cond (Nat.blt pc 645) (cond (Nat.beq pc 642) (some (.invokevirtual 83, 645)) none) (cond (Nat.beq pc 645) (some (.aload_n 2, 646)) none)) (cond (Nat.blt pc 649) (cond (Nat.beq pc 646) (some (.invokevirtual 86, 649)) none) (cond (Nat.blt pc 652) (cond (Nat.beq pc 649) (some (.if_icmp .eq 178, 827)) none) (cond (Nat.beq pc 652) (some (.iconst 0, 653)) none))))))))) (cond (Nat.blt pc 740) (cond (Nat.blt pc 696) (cond (Nat.blt pc 674) (cond (Nat.blt pc 662) (cond (Nat.blt pc 658) (cond (Nat.blt pc 655) (cond (Nat.blt pc 654) (cond (Nat.beq pc 653) (some (.ireturn, 654)) none) (cond (Nat.beq pc 654) (some (.aload_n 1, 655)) none)) (cond (Nat.blt pc 656) (cond (Nat.beq pc 655) (some (.aload_n 0, 656)) none) (cond (Nat.beq pc 656) (some (.iload 4, 658)) none))) (cond (Nat.blt pc 660) (cond (Nat.blt pc 659) (cond (Nat.beq pc 658) (some (.iconst 1, 659)) none) (cond (Nat.beq pc 659) (some (.iadd, 660)) none)) (cond (Nat.blt pc 661) (cond (Nat.beq pc 660) (some (.iaload, 661)) none) (cond (Nat.beq pc 661) (some (.aload_n 0, 662)) none)))) (cond (Nat.blt pc 667) (cond (Nat.blt pc 665) (cond (Nat.blt pc 664) (cond (Nat.beq pc 662) (some (.iload 4, 664)) none) (cond (Nat.beq pc 664) (some (.iconst 2, 665)) none)) (cond (Nat.blt pc 666) (cond (Nat.beq pc 665) (some (.iadd, 666)) none) (cond (Nat.beq pc 666) (some (.iaload, 667)) none))) (cond (Nat.blt pc 671) (cond (Nat.blt pc 670) (cond (Nat.beq pc 667) (some (.invokevirtual 87, 670)) none) (cond (Nat.beq pc 670) (some (.aload_n 2, 671)) none)) (cond (Nat.blt pc 672) (cond (Nat.beq pc 671) (some (.aload_n 0, 672)) none) (cond (Nat.beq pc 672) (some (.iload 4, 674)) none))))) (cond (Nat.blt pc 683) (cond (Nat.blt pc 678) (cond (Nat.blt pc 676) (cond (Nat.blt pc 675) (cond (Nat.beq pc 674) (some (.iconst 1, 675)) none) (cond (Nat.beq pc 675) (some (.iadd, 676)) none)) (cond (Nat.blt pc 677) (cond (Nat.beq pc 676) (some (.iaload, 677)) none) (cond (Nat.beq pc 677) (some (.aload_n 0, 678)) none))) (cond (Nat.blt pc 681) (cond (Nat.blt pc 680) (cond (Nat.beq pc 678) (some (.iload 4, 680)) none) (cond (Nat.beq pc 680) (some (.iconst 2, 681)) none)) (cond (Nat.blt pc 682) (cond (Nat.beq pc 681) (some (.iadd, 682)) none) (cond (Nat.beq pc 682) (some (.iaload, 683)) none)))) (cond (Nat.blt pc 691) (cond (Nat.blt pc 689) (cond (Nat.blt pc 686) (cond (Nat.beq pc 683) (some (.invokevirtual 90, 686)) none) (cond (Nat.beq pc 686) (some (.if_icmp .eq 141, 827)) none)) (cond (Nat.blt pc 690) (cond (Nat.beq pc 689) (some (.iconst 0, 690)) none) (cond (Nat.beq pc 690) (some (.ireturn, 691)) none))) (cond (Nat.blt pc 693) (cond (Nat.blt pc 692) (cond (Nat.beq pc 691) (some (.aload_n 1, 692)) none) (cond (Nat.beq pc 692) (some (.aload_n 0, 693)) none)) (cond (Nat.blt pc 695) (cond (Nat.beq pc 693) (some (.iload 4, 695)) none) (cond (Nat.beq pc 695) (some (.iconst 1, 696)) none)))))) (cond (Nat.blt pc 717) (cond (Nat.blt pc 705) (cond (Nat.blt pc 701) (cond (Nat.blt pc 698) (cond (Nat.blt pc 697) (cond (Nat.beq pc 696) (some (.iadd, 697)) none) (cond (Nat.beq pc 697) (some (.iaload, 698)) none)) (cond (Nat.blt pc 699) (cond (Nat.beq pc 698) (some (.aload_n 0, 699)) none) (cond (Nat.beq pc 699) (some (.iload 4, 701)) none))) (cond (Nat.blt pc 703) (cond (Nat.blt pc 702) (cond (Nat.beq pc 701) (some (.iconst 2, 702)) none) (cond (Nat.beq pc 702) (some (.iadd, 703)) none)) (cond (Nat.blt pc 704) (cond (Nat.beq pc 703) (some (.iaload, 704)) none) (cond (Nat.beq pc 704) (some (.aload_n 0, 705)) none)))) (cond (Nat.blt pc 710) (cond (Nat.blt pc 708) (cond (Nat.blt pc 707) (cond (Nat.beq pc 705) (some (.iload 4, 707)) none) (cond (Nat.beq pc 707) (some (.iconst 3, 708)) none)) (cond (Nat.blt pc 709) (cond (Nat.beq pc 708) (some (.iadd, 709)) none) (cond (Nat.beq pc 709) (some (.iaload, 710)) none))) (cond (Nat.blt pc 714) (cond (Nat.blt pc 713) (cond (Nat.beq pc 710) (some (.invokevirtual 91, 713)) none) (cond (Nat.beq pc 713) (some (.aload_n 2, 714)) none)) (cond (Nat.blt pc 715) (cond (Nat.beq pc 714) (some (.aload_n 0, 715)) none) (cond (Nat.beq pc 715) (some (.iload 4, 717)) none))))) (cond (Nat.blt pc 726) (cond (Nat.blt pc 721) (cond (Nat.blt pc 719) (cond (Nat.blt pc 718) (cond (Nat.beq pc 717) (some (.iconst 1, 718)) none) (cond (Nat.beq pc 718) (some (.iadd, 719)) none)) (cond (Nat.blt pc 720) (cond (Nat.beq pc 719) (some (.iaload, 720)) none) (cond (Nat.beq pc 720) (some (.aload_n 0, 721)) none))) (cond (Nat.blt pc 724) (cond (Nat.blt pc 723) (cond (Nat.beq pc 721) (some (.iload 4, 723)) none) (cond (Nat.beq pc 723) (some (.iconst 2, 724)) none)) (cond (Nat.blt pc 725) (cond (Nat.beq pc 724) (some (.iadd, 725)) none) (cond (Nat.beq pc 725) (some (.iaload, 726)) none)))) (cond (Nat.blt pc 731) (cond (Nat.blt pc 729) (cond (Nat.blt pc 727) (cond (Nat.beq pc 726) (some (.aload_n 0, 727)) none) (cond (Nat.beq pc 727) (some (.iload 4, 729)) none)) (cond (Nat.blt pc 730) (cond (Nat.beq pc 729) (some (.iconst 3, 730)) none) (cond (Nat.beq pc 730) (some (.iadd, 731)) none))) (cond (Nat.blt pc 735) (cond (Nat.blt pc 732) (cond (Nat.beq pc 731) (some (.iaload, 732)) none) (cond (Nat.beq pc 732) (some (.invokevirtual 95, 735)) none)) (cond (Nat.blt pc 738) (cond (Nat.beq pc 735) (some (.if_icmp .eq 92, 827)) none) (cond (Nat.blt pc 739) (cond (Nat.beq pc 738) (some (.iconst 0, 739)) none) (cond (Nat.beq pc 739) (some (.ireturn, 740)) none)))))))) (cond (Nat.blt pc 788) (cond (Nat.blt pc 761) (cond (Nat.blt pc 750) (cond (Nat.blt pc 745) (cond (Nat.blt pc 742) (cond (Nat.blt pc 741) (cond (Nat.beq pc 740) (some (.aload_n 1, 741)) none) (cond (Nat.beq pc 741) (some (.aload_n 0, 742)) none)) (cond (Nat.blt pc 744) (cond (Nat.beq pc 742) (some (.iload 4, 744)) none) (cond (Nat.beq pc 744) (some (.iconst 1, 745)) none))) (cond (Nat.blt pc 747) (cond (Nat.blt pc 746) (cond (Nat.beq pc 745) (some (.iadd, 746)) none) (cond (Nat.beq pc 746) (some (.iaload, 747)) none)) (cond (Nat.blt pc 748) (cond (Nat.beq pc 747) (some (.aload_n 0, 748)) none) (cond (Nat.beq pc 748) (some (.iload 4, 750)) none)))) (cond (Nat.blt pc 756) (cond (Nat.blt pc 752) (cond (Nat.blt pc 751) (cond (Nat.beq pc 750) (some (.iconst 2, 751)) none) (cond (Nat.beq pc 751) (some (.iadd, 752)) none)) (cond (Nat.blt pc 753) (cond (Nat.beq pc 752) (some (.iaload, 753)) none) (cond (Nat.beq pc 753) (some (.invokevirtual 96, 756)) none))) (cond (Nat.blt pc 758) (cond (Nat.blt pc 757) (cond (Nat.beq pc 756) (some (.aload_n 2, 757)) none) (cond (Nat.beq pc 757) (some (.aload_n 0, 758)) none)) (cond (Nat.blt pc 760) (cond (Nat.beq pc 758) (some (.iload 4, 760)) none) (cond (Nat.beq pc 760) (some (.iconst 1, 761)) none))))) (cond (Nat.blt pc 772) (cond (Nat.blt pc 766) (cond (Nat.blt pc 763) (cond (Nat.blt pc 762) (cond (Nat.beq pc 761) (some (.iadd, 762)) none) (cond (Nat.beq pc 762) (some (.iaload, 763)) none)) (cond (Nat.blt pc 764) (cond (Nat.beq pc 763) (some (.aload_n 0, 764)) none) (cond (Nat.beq pc 764) (some (.iload 4, 766)) none))) (cond (Nat.blt pc 768) (cond (Nat.blt pc 767) (cond (Nat.beq pc 766) (some (.iconst 2, 767)) none) (cond (Nat.beq pc 767) (some (.iadd, 768)) none)) (cond (Nat.blt pc 769) (cond (Nat.beq pc 768) (some (.iaload, 769)) none) (cond (Nat.beq pc 769) (some (.invokevirtual 100, 772)) none)))) (cond (Nat.blt pc 778) (cond (Nat.blt pc 776) (cond (Nat.blt pc 775) (cond (Nat.beq pc 772) (some (.if_icmp .eq 55, 827)) none) (cond (Nat.beq pc 775) (some (.iconst 0, 776)) none)) (cond (Nat.blt pc 777) (cond (Nat.beq pc 776) (some (.ireturn, 777)) none) (cond (Nat.beq pc 777) (some (.aload_n 1, 778)) none))) (cond (Nat.blt pc 782) (cond (Nat.blt pc 781) (cond (Nat.beq pc 778) (some (.invokevirtual 101, 781)) none) (cond (Nat.beq pc 781) (some (.aload_n 2, 782)) none)) (cond (Nat.blt pc 785) (cond (Nat.beq pc 782) (some (.invokevirtual 104, 785)) none) (cond (Nat.beq pc 785) (some (.if_icmp .eq 42, 827)) none)))))) (cond (Nat.blt pc 808) (cond (Nat.blt pc 797) (cond (Nat.blt pc 792) (cond (Nat.blt pc 790) (cond (Nat.blt pc 789) (cond (Nat.beq pc 788) (some (.iconst 0, 789)) none) (cond (Nat.beq pc 789) (some (.ireturn, 790)) none)) (cond (Nat.blt pc 791) (cond (Nat.beq pc 790) (some (.aload_n 1, 791)) none) (cond (Nat.beq pc 791) (some (.aload_n 0, 792)) none))) (cond (Nat.blt pc 795) (cond (Nat.blt pc 794) (cond (Nat.beq pc 792) (some (.iload 4, 794)) none) (cond (Nat.beq pc 794) (some (.iconst 1, 795)) none)) (cond (Nat.blt pc 796) (cond (Nat.beq pc 795) (some (.iadd, 796)) none) (cond (Nat.beq pc 796) (some (.iaload, 797)) none)))) (cond (Nat.blt pc 802) (cond (Nat.blt pc 800) (cond (Nat.blt pc 798) (cond (Nat.beq pc 797) (some (.aload_n 0, 798)) none) (cond (Nat.beq pc 798) (some (.iload 4, 800)) none)) (cond (Nat.blt pc 801) (cond (Nat.beq pc 800) (some (.iconst 2, 801)) none) (cond (Nat.beq pc 801) (some (.iadd, 802)) none))) (cond (Nat.blt pc 806) (cond (Nat.blt pc 803) (cond (Nat.beq pc 802) (some (.iaload, 803)) none) (cond (Nat.beq pc 803) (some (.invokevirtual 105, 806)) none)) (cond (Nat.blt pc 807) (cond (Nat.beq pc 806) (some (.aload_n 2, 807)) none) (cond (Nat.beq pc 807) (some (.aload_n 0, 808)) none))))) (cond (Nat.blt pc 818) (cond (Nat.blt pc 813) (cond (Nat.blt pc 811) (cond (Nat.blt pc 810) (cond (Nat.beq pc 808) (some (.iload 4, 810)) none) (cond (Nat.beq pc 810) (some (.iconst 1, 811)) none)) (cond (Nat.blt pc 812) (cond (Nat.beq pc 811) (some (.iadd, 812)) none) (cond (Nat.beq pc 812) (some (.iaload, 813)) none))) (cond (Nat.blt pc 816) (cond (Nat.blt pc 814) (cond (Nat.beq pc 813) (some (.aload_n 0, 814)) none) (cond (Nat.beq pc 814) (some (.iload 4, 816)) none)) (cond (Nat.blt pc 817) (cond (Nat.beq pc 816) (some (.iconst 2, 817)) none) (cond (Nat.beq pc 817) (some (.iadd, 818)) none)))) (cond (Nat.blt pc 826) (cond (Nat.blt pc 822) (cond (Nat.blt pc 819) (cond (Nat.beq pc 818) (some (.iaload, 819)) none) (cond (Nat.beq pc 819) (some (.invokevirtual 108, 822)) none)) (cond (Nat.blt pc 825) (cond (Nat.beq pc 822) (some (.if_icmp .eq 5, 827)) none) (cond (Nat.beq pc 825) (some (.iconst 0, 826)) none))) (cond (Nat.blt pc 830) (cond (Nat.blt pc 827) (cond (Nat.beq pc 826) (some (.ireturn, 827)) none) (cond (Nat.beq pc 827) (some (.iinc 4 5, 830)) none)) (cond (Nat.blt pc 833) (cond (Nat.beq pc 830) (some (.goto (-807), 23)) none) (cond (Nat.blt pc 834) (cond (Nat.beq pc 833) (some (.iconst 1, 834)) none) (cond (Nat.beq pc 834) (some (.ireturn, 835)) none))))))))))) none
-- java/lang/Math.floorMod(II)I
def xc_1 : Nat → Option (Instr × Nat) := fun pc => cond (Nat.blt pc 20) (cond (Nat.blt pc 10) (cond (Nat.blt pc 4) (cond (Nat.blt pc 2) (cond (Nat.blt pc 1) (cond (Nat.beq pc 0) (some (.iload_n 0, 1)) none) (cond (Nat.beq pc 1) (some (.iload_n 1, 2)) none)) (cond (Nat.blt pc 3) (cond (Nat.beq pc 2) (some (.irem, 3)) none) (cond (Nat.beq pc 3) (some (.istore_n 2, 4)) none))) (cond (Nat.blt pc 6) (cond (Nat.blt pc 5) (cond (Nat.beq pc 4) (some (.iload_n 0, 5)) none) (cond (Nat.beq pc 5) (some (.iload_n 1, 6)) none)) (cond (Nat.blt pc 7) (cond (Nat.beq pc 6) (some (.ixor, 7)) none) (cond (Nat.beq pc 7) (some (.ifCond .ge 11, 18)) none)))) (cond (Nat.blt pc 16) (cond (Nat.blt pc 14) (cond (Nat.blt pc 11) (cond (Nat.beq pc 10) (some (.iload_n 2, 11)) none) (cond (Nat.beq pc 11) (some (.ifCond .eq 7, 18)) none)) (cond (Nat.blt pc 15) (cond (Nat.beq pc 14) (some (.iload_n 2, 15)) none) (cond (Nat.beq pc 15) (some (.iload_n 1, 16)) none))) (cond (Nat.blt pc 18) (cond (Nat.blt pc 17) (cond (Nat.beq pc 16) (some (.iadd, 17)) none) (cond (Nat.beq pc 17) (some (.ireturn, 18)) none)) (cond (Nat.blt pc 19) (cond (Nat.beq pc 18) (some (.iload_n 2, 19)) none) (cond (Nat.beq pc 19) (some (.ireturn, 20)) none))))) none
-- CaseDesk$Life.<init>()V
def xc_2 : Nat → Option (Instr × Nat) := fun pc => cond (Nat.blt pc 68) (cond (Nat.blt pc 33) (cond (Nat.blt pc 15) (cond (Nat.blt pc 7) (cond (Nat.blt pc 4) (cond (Nat.blt pc 1) (cond (Nat.beq pc 0) (some (.aload_n 0, 1)) none) (cond (Nat.beq pc 1) (some (.invokespecial 3, 4)) none)) (cond (Nat.blt pc 5) (cond (Nat.beq pc 4) (some (.aload_n 0, 5)) none) (cond (Nat.beq pc 5) (some (.bipush 40, 7)) none))) (cond (Nat.blt pc 12) (cond (Nat.blt pc 9) (cond (Nat.beq pc 7) (some (.newarray .int, 9)) none) (cond (Nat.beq pc 9) (some (.putfield 9, 12)) none)) (cond (Nat.blt pc 13) (cond (Nat.beq pc 12) (some (.aload_n 0, 13)) none) (cond (Nat.beq pc 13) (some (.bipush 40, 15)) none)))) (cond (Nat.blt pc 23) (cond (Nat.blt pc 20) (cond (Nat.blt pc 17) (cond (Nat.beq pc 15) (some (.newarray .int, 17)) none) (cond (Nat.beq pc 17) (some (.putfield 15, 20)) none)) (cond (Nat.blt pc 21) (cond (Nat.beq pc 20) (some (.aload_n 0, 21)) none) (cond (Nat.beq pc 21) (some (.bipush 40, 23)) none))) (cond (Nat.blt pc 28) (cond (Nat.blt pc 25) (cond (Nat.beq pc 23) (some (.newarray .int, 25)) none) (cond (Nat.beq pc 25) (some (.putfield 18, 28)) none)) (cond (Nat.blt pc 29) (cond (Nat.beq pc 28) (some (.aload_n 0, 29)) none) (cond (Nat.blt pc 31) (cond (Nat.beq pc 29) (some (.bipush 40, 31)) none) (cond (Nat.beq pc 31) (some (.newarray .int, 33)) none)))))) (cond (Nat.blt pc 51) (cond (Nat.blt pc 41) (cond (Nat.blt pc 37) (cond (Nat.blt pc 36) (cond (Nat.beq pc 33) (some (.putfield 21, 36)) none) (cond (Nat.beq pc 36) (some (.aload_n 0, 37)) none)) (cond (Nat.blt pc 39) (cond (Nat.beq pc 37) (some (.bipush 40, 39)) none) (cond (Nat.beq pc 39) (some (.newarray .int, 41)) none))) (cond (Nat.blt pc 45) (cond (Nat.blt pc 44) (cond (Nat.beq pc 41) (some (.putfield 24, 44)) none) (cond (Nat.beq pc 44) (some (.aload_n 0, 45)) none)) (cond (Nat.blt pc 46) (cond (Nat.beq pc 45) (some (.iconst 4, 46)) none) (cond (Nat.blt pc 48) (cond (Nat.beq pc 46) (some (.newarray .int, 48)) none) (cond (Nat.beq pc 48) (some (.putfield 27, 51)) none))))) (cond (Nat.blt pc 59) (cond (Nat.blt pc 54) (cond (Nat.blt pc 52) (cond (Nat.beq pc 51) (some (.aload_n 0, 52)) none) (cond (Nat.beq pc 52) (some (.bipush 48, 54)) none)) (cond (Nat.blt pc 56) (cond (Nat.beq pc 54) (some (.newarray .int, 56)) none) (cond (Nat.beq pc 56) (some (.putfield 30, 59)) none))) (cond (Nat.blt pc 62) (cond (Nat.blt pc 60) (cond (Nat.beq pc 59) (some (.aload_n 0, 60)) none) (cond (Nat.beq pc 60) (some (.bipush 48, 62)) none)) (cond (Nat.blt pc 64) (cond (Nat.beq pc 62) (some (.newarray .int, 64)) none) (cond (Nat.blt pc 67) (cond (Nat.beq pc 64) (some (.putfield 33, 67)) none) (cond (Nat.beq pc 67) (some (.return_, 68)) none))))))) none
-- CaseDesk$Life.hasBegun()Z
def xc_3 : Nat → Option (Instr × Nat) := fun pc => cond (Nat.blt pc 13) (cond (Nat.blt pc 7) (cond (Nat.blt pc 1) (cond (Nat.beq pc 0) (some (.aload_n 0, 1)) none) (cond (Nat.blt pc 4) (cond (Nat.beq pc 1) (some (.getfield 36, 4)) none) (cond (Nat.beq pc 4) (some (.ifCond .le 7, 11)) none))) (cond (Nat.blt pc 11) (cond (Nat.blt pc 8) (cond (Nat.beq pc 7) (some (.iconst 1, 8)) none) (cond (Nat.beq pc 8) (some (.goto 4, 12)) none)) (cond (Nat.blt pc 12) (cond (Nat.beq pc 11) (some (.iconst 0, 12)) none) (cond (Nat.beq pc 12) (some (.ireturn, 13)) none)))) none
-- CaseDesk$Life.has(I)Z
def xc_4 : Nat → Option (Instr × Nat) := fun pc => cond (Nat.blt pc 18) (cond (Nat.blt pc 9) (cond (Nat.blt pc 4) (cond (Nat.blt pc 1) (cond (Nat.beq pc 0) (some (.iload_n 1, 1)) none) (cond (Nat.beq pc 1) (some (.ifCond .lt 15, 16)) none)) (cond (Nat.blt pc 5) (cond (Nat.beq pc 4) (some (.iload_n 1, 5)) none) (cond (Nat.blt pc 6) (cond (Nat.beq pc 5) (some (.aload_n 0, 6)) none) (cond (Nat.beq pc 6) (some (.getfield 36, 9)) none)))) (cond (Nat.blt pc 13) (cond (Nat.blt pc 12) (cond (Nat.beq pc 9) (some (.if_icmp .ge 7, 16)) none) (cond (Nat.beq pc 12) (some (.iconst 1, 13)) none)) (cond (Nat.blt pc 16) (cond (Nat.beq pc 13) (some (.goto 4, 17)) none) (cond (Nat.blt pc 17) (cond (Nat.beq pc 16) (some (.iconst 0, 17)) none) (cond (Nat.beq pc 17) (some (.ireturn, 18)) none))))) none
-- CaseDesk$Life.isFinal(I)Z
def xc_5 : Nat → Option (Instr × Nat) := fun pc => cond (Nat.blt pc 26) (cond (Nat.blt pc 14) (cond (Nat.blt pc 6) (cond (Nat.blt pc 4) (cond (Nat.blt pc 1) (cond (Nat.beq pc 0) (some (.aload_n 0, 1)) none) (cond (Nat.beq pc 1) (some (.getfield 18, 4)) none)) (cond (Nat.blt pc 5) (cond (Nat.beq pc 4) (some (.iload_n 1, 5)) none) (cond (Nat.beq pc 5) (some (.iaload, 6)) none))) (cond (Nat.blt pc 10) (cond (Nat.blt pc 7) (cond (Nat.beq pc 6) (some (.iconst 4, 7)) none) (cond (Nat.beq pc 7) (some (.if_icmp .eq 13, 20)) none)) (cond (Nat.blt pc 11) (cond (Nat.beq pc 10) (some (.aload_n 0, 11)) none) (cond (Nat.beq pc 11) (some (.getfield 18, 14)) none)))) (cond (Nat.blt pc 20) (cond (Nat.blt pc 16) (cond (Nat.blt pc 15) (cond (Nat.beq pc 14) (some (.iload_n 1, 15)) none) (cond (Nat.beq pc 15) (some (.iaload, 16)) none)) (cond (Nat.blt pc 17) (cond (Nat.beq pc 16) (some (.iconst 5, 17)) none) (cond (Nat.beq pc 17) (some (.if_icmp .ne 7, 24)) none))) (cond (Nat.blt pc 24) (cond (Nat.blt pc 21) (cond (Nat.beq pc 20) (some (.iconst 1, 21)) none) (cond (Nat.beq pc 21) (some (.goto 4, 25)) none)) (cond (Nat.blt pc 25) (cond (Nat.beq pc 24) (some (.iconst 0, 25)) none) (cond (Nat.beq pc 25) (some (.ireturn, 26)) none))))) none
-- CaseDesk$Life.isWaiting(I)Z
def xc_6 : Nat → Option (Instr × Nat) := fun pc => cond (Nat.blt pc 25) (cond (Nat.blt pc 13) (cond (Nat.blt pc 5) (cond (Nat.blt pc 1) (cond (Nat.beq pc 0) (some (.aload_n 0, 1)) none) (cond (Nat.blt pc 4) (cond (Nat.beq pc 1) (some (.getfield 18, 4)) none) (cond (Nat.beq pc 4) (some (.iload_n 1, 5)) none))) (cond (Nat.blt pc 9) (cond (Nat.blt pc 6) (cond (Nat.beq pc 5) (some (.iaload, 6)) none) (cond (Nat.beq pc 6) (some (.ifCond .eq 13, 19)) none)) (cond (Nat.blt pc 10) (cond (Nat.beq pc 9) (some (.aload_n 0, 10)) none) (cond (Nat.beq pc 10) (some (.getfield 18, 13)) none)))) (cond (Nat.blt pc 19) (cond (Nat.blt pc 15) (cond (Nat.blt pc 14) (cond (Nat.beq pc 13) (some (.iload_n 1, 14)) none) (cond (Nat.beq pc 14) (some (.iaload, 15)) none)) (cond (Nat.blt pc 16) (cond (Nat.beq pc 15) (some (.iconst 1, 16)) none) (cond (Nat.beq pc 16) (some (.if_icmp .ne 7, 23)) none))) (cond (Nat.blt pc 23) (cond (Nat.blt pc 20) (cond (Nat.beq pc 19) (some (.iconst 1, 20)) none) (cond (Nat.beq pc 20) (some (.goto 4, 24)) none)) (cond (Nat.blt pc 24) (cond (Nat.beq pc 23) (some (.iconst 0, 24)) none) (cond (Nat.beq pc 24) (some (.ireturn, 25)) none))))) none
-- CaseDesk$Life.add(II)I
def xc_7 : Nat → Option (Instr × Nat) := fun pc => cond (Nat.blt pc 37) (cond (Nat.blt pc 19) (cond (Nat.blt pc 9) (cond (Nat.blt pc 4) (cond (Nat.blt pc 1) (cond (Nat.beq pc 0) (some (.aload_n 0, 1)) none) (cond (Nat.beq pc 1) (some (.getfield 9, 4)) none)) (cond (Nat.blt pc 5) (cond (Nat.beq pc 4) (some (.aload_n 0, 5)) none) (cond (Nat.blt pc 8) (cond (Nat.beq pc 5) (some (.getfield 36, 8)) none) (cond (Nat.beq pc 8) (some (.iload_n 1, 9)) none)))) (cond (Nat.blt pc 14) (cond (Nat.blt pc 10) (cond (Nat.beq pc 9) (some (.iastore, 10)) none) (cond (Nat.blt pc 11) (cond (Nat.beq pc 10) (some (.aload_n 0, 11)) none) (cond (Nat.beq pc 11) (some (.getfield 15, 14)) none))) (cond (Nat.blt pc 15) (cond (Nat.beq pc 14) (some (.aload_n 0, 15)) none) (cond (Nat.blt pc 18) (cond (Nat.beq pc 15) (some (.getfield 36, 18)) none) (cond (Nat.beq pc 18) (some (.iload_n 2, 19)) none))))) (cond (Nat.blt pc 27) (cond (Nat.blt pc 22) (cond (Nat.blt pc 20) (cond (Nat.beq pc 19) (some (.iastore, 20)) none) (cond (Nat.blt pc 21) (cond (Nat.beq pc 20) (some (.aload_n 0, 21)) none) (cond (Nat.beq pc 21) (some (.dup, 22)) none))) (cond (Nat.blt pc 25) (cond (Nat.beq pc 22) (some (.getfield 36, 25)) none) (cond (Nat.blt pc 26) (cond (Nat.beq pc 25) (some (.iconst 1, 26)) none) (cond (Nat.beq pc 26) (some (.iadd, 27)) none)))) (cond (Nat.blt pc 34) (cond (Nat.blt pc 30) (cond (Nat.beq pc 27) (some (.putfield 36, 30)) none) (cond (Nat.blt pc 31) (cond (Nat.beq pc 30) (some (.aload_n 0, 31)) none) (cond (Nat.beq pc 31) (some (.getfield 36, 34)) none))) (cond (Nat.blt pc 35) (cond (Nat.beq pc 34) (some (.iconst 1, 35)) none) (cond (Nat.blt pc 36) (cond (Nat.beq pc 35) (some (.isub, 36)) none) (cond (Nat.beq pc 36) (some (.ireturn, 37)) none)))))) none
-- CaseDesk$Life.note(II)V
def xc_8 : Nat → Option (Instr × Nat) := fun pc => cond (Nat.blt pc 56) (cond (Nat.blt pc 29) (cond (Nat.blt pc 18) (cond (Nat.blt pc 9) (cond (Nat.blt pc 4) (cond (Nat.blt pc 1) (cond (Nat.beq pc 0) (some (.aload_n 0, 1)) none) (cond (Nat.beq pc 1) (some (.getfield 40, 4)) none)) (cond (Nat.blt pc 6) (cond (Nat.beq pc 4) (some (.bipush 48, 6)) none) (cond (Nat.beq pc 6) (some (.invokestatic 43, 9)) none))) (cond (Nat.blt pc 11) (cond (Nat.blt pc 10) (cond (Nat.beq pc 9) (some (.istore_n 3, 10)) none) (cond (Nat.beq pc 10) (some (.aload_n 0, 11)) none)) (cond (Nat.blt pc 14) (cond (Nat.beq pc 11) (some (.getfield 18, 14)) none) (cond (Nat.blt pc 15) (cond (Nat.beq pc 14) (some (.iload_n 1, 15)) none) (cond (Nat.beq pc 15) (some (.getstatic 49, 18)) none))))) (cond (Nat.blt pc 22) (cond (Nat.blt pc 20) (cond (Nat.blt pc 19) (cond (Nat.beq pc 18) (some (.iload_n 2, 19)) none) (cond (Nat.beq pc 19) (some (.iaload, 20)) none)) (cond (Nat.blt pc 21) (cond (Nat.beq pc 20) (some (.iastore, 21)) none) (cond (Nat.beq pc 21) (some (.aload_n 0, 22)) none))) (cond (Nat.blt pc 26) (cond (Nat.blt pc 25) (cond (Nat.beq pc 22) (some (.getfield 21, 25)) none) (cond (Nat.beq pc 25) (some (.iload_n 1, 26)) none)) (cond (Nat.blt pc 27) (cond (Nat.beq pc 26) (some (.dup2, 27)) none) (cond (Nat.blt pc 28) (cond (Nat.beq pc 27) (some (.iaload, 28)) none) (cond (Nat.beq pc 28) (some (.iconst 1, 29)) none)))))) (cond (Nat.blt pc 42) (cond (Nat.blt pc 35) (cond (Nat.blt pc 31) (cond (Nat.blt pc 30) (cond (Nat.beq pc 29) (some (.iadd, 30)) none) (cond (Nat.beq pc 30) (some (.iastore, 31)) none)) (cond (Nat.blt pc 32) (cond (Nat.beq pc 31) (some (.aload_n 0, 32)) none) (cond (Nat.beq pc 32) (some (.getfield 30, 35)) none))) (cond (Nat.blt pc 37) (cond (Nat.blt pc 36) (cond (Nat.beq pc 35) (some (.iload_n 3, 36)) none) (cond (Nat.beq pc 36) (some (.iload_n 1, 37)) none)) (cond (Nat.blt pc 38) (cond (Nat.beq pc 37) (some (.iastore, 38)) none) (cond (Nat.blt pc 39) (cond (Nat.beq pc 38) (some (.aload_n 0, 39)) none) (cond (Nat.beq pc 39) (some (.getfield 33, 42)) none))))) (cond (Nat.blt pc 47) (cond (Nat.blt pc 44) (cond (Nat.blt pc 43) (cond (Nat.beq pc 42) (some (.iload_n 3, 43)) none) (cond (Nat.beq pc 43) (some (.iload_n 2, 44)) none)) (cond (Nat.blt pc 45) (cond (Nat.beq pc 44) (some (.iastore, 45)) none) (cond (Nat.blt pc 46) (cond (Nat.beq pc 45) (some (.aload_n 0, 46)) none) (cond (Nat.beq pc 46) (some (.dup, 47)) none)))) (cond (Nat.blt pc 51) (cond (Nat.blt pc 50) (cond (Nat.beq pc 47) (some (.getfield 40, 50)) none) (cond (Nat.beq pc 50) (some (.iconst 1, 51)) none)) (cond (Nat.blt pc 52) (cond (Nat.beq pc 51) (some (.iadd, 52)) none) (cond (Nat.blt pc 55) (cond (Nat.beq pc 52) (some (.putfield 40, 55)) none) (cond (Nat.beq pc 55) (some (.return_, 56)) none))))))) none
-- CaseDesk$Life.copyFrom(LCaseDesk$Life;)V
def xc_9 : Nat → Option (Instr × Nat) := fun pc => cond (Nat.blt pc 144) (cond (Nat.blt pc 71) (cond (Nat.blt pc 36) (cond (Nat.blt pc 17) (cond (Nat.blt pc 8) (cond (Nat.blt pc 2) (cond (Nat.blt pc 1) (cond (Nat.beq pc 0) (some (.aload_n 0, 1)) none) (cond (Nat.beq pc 1) (some (.aload_n 1, 2)) none)) (cond (Nat.blt pc 5) (cond (Nat.beq pc 2) (some (.getfield 52, 5)) none) (cond (Nat.beq pc 5) (some (.putfield 52, 8)) none))) (cond (Nat.blt pc 10) (cond (Nat.blt pc 9) (cond (Nat.beq pc 8) (some (.aload_n 0, 9)) none) (cond (Nat.beq pc 9) (some (.aload_n 1, 10)) none)) (cond (Nat.blt pc 13) (cond (Nat.beq pc 10) (some (.getfield 36, 13)) none) (cond (Nat.blt pc 16) (cond (Nat.beq pc 13) (some (.putfield 36, 16)) none) (cond (Nat.beq pc 16) (some (.aload_n 1, 17)) none))))) (cond (Nat.blt pc 26) (cond (Nat.blt pc 21) (cond (Nat.blt pc 20) (cond (Nat.beq pc 17) (some (.getfield 9, 20)) none) (cond (Nat.beq pc 20) (some (.iconst 0, 21)) none)) (cond (Nat.blt pc 22) (cond (Nat.beq pc 21) (some (.aload_n 0, 22)) none) (cond (Nat.blt pc 25) (cond (Nat.beq pc 22) (some (.getfield 9, 25)) none) (cond (Nat.beq pc 25) (some (.iconst 0, 26)) none)))) (cond (Nat.blt pc 31) (cond (Nat.blt pc 28) (cond (Nat.beq pc 26) (some (.bipush 40, 28)) none) (cond (Nat.beq pc 28) (some (.invokestatic 55, 31)) none)) (cond (Nat.blt pc 32) (cond (Nat.beq pc 31) (some (.aload_n 1, 32)) none) (cond (Nat.blt pc 35) (cond (Nat.beq pc 32) (some (.getfield 15, 35)) none) (cond (Nat.beq pc 35) (some (.iconst 0, 36)) none)))))) (cond (Nat.blt pc 52) (cond (Nat.blt pc 43) (cond (Nat.blt pc 40) (cond (Nat.blt pc 37) (cond (Nat.beq pc 36) (some (.aload_n 0, 37)) none) (cond (Nat.beq pc 37) (some (.getfield 15, 40)) none)) (cond (Nat.blt pc 41) (cond (Nat.beq pc 40) (some (.iconst 0, 41)) none) (cond (Nat.beq pc 41) (some (.bipush 40, 43)) none))) (cond (Nat.blt pc 47) (cond (Nat.blt pc 46) (cond (Nat.beq pc 43) (some (.invokestatic 55, 46)) none) (cond (Nat.beq pc 46) (some (.aload_n 1, 47)) none)) (cond (Nat.blt pc 50) (cond (Nat.beq pc 47) (some (.getfield 18, 50)) none) (cond (Nat.blt pc 51) (cond (Nat.beq pc 50) (some (.iconst 0, 51)) none) (cond (Nat.beq pc 51) (some (.aload_n 0, 52)) none))))) (cond (Nat.blt pc 62) (cond (Nat.blt pc 56) (cond (Nat.blt pc 55) (cond (Nat.beq pc 52) (some (.getfield 18, 55)) none) (cond (Nat.beq pc 55) (some (.iconst 0, 56)) none)) (cond (Nat.blt pc 58) (cond (Nat.beq pc 56) (some (.bipush 40, 58)) none) (cond (Nat.blt pc 61) (cond (Nat.beq pc 58) (some (.invokestatic 55, 61)) none) (cond (Nat.beq pc 61) (some (.aload_n 1, 62)) none)))) (cond (Nat.blt pc 66) (cond (Nat.blt pc 65) (cond (Nat.beq pc 62) (some (.getfield 21, 65)) none) (cond (Nat.beq pc 65) (some (.iconst 0, 66)) none)) (cond (Nat.blt pc 67) (cond (Nat.beq pc 66) (some (.aload_n 0, 67)) none) (cond (Nat.blt pc 70) (cond (Nat.beq pc 67) (some (.getfield 21, 70)) none) (cond (Nat.beq pc 70) (some (.iconst 0, 71)) none))))))) (cond (Nat.blt pc 106) (cond (Nat.blt pc 88) (cond (Nat.blt pc 80) (cond (Nat.blt pc 76) (cond (Nat.blt pc 73) (cond (Nat.beq pc 71) (some (.bipush 40, 73)) none) (cond (Nat.beq pc 73) (some (.invokestatic 55, 76)) none)) (cond (Nat.blt pc 77) (cond (Nat.beq pc 76) (some (.aload_n 1, 77)) none) (cond (Nat.beq pc 77) (some (.getfield 24, 80)) none))) (cond (Nat.blt pc 82) (cond (Nat.blt pc 81) (cond (Nat.beq pc 80) (some (.iconst 0, 81)) none) (cond (Nat.beq pc 81) (some (.aload_n 0, 82)) none)) (cond (Nat.blt pc 85) (cond (Nat.beq pc 82) (some (.getfield 24, 85)) none) (cond (Nat.blt pc 86) (cond (Nat.beq pc 85) (some (.iconst 0, 86)) none) (cond (Nat.beq pc 86) (some (.bipush 40, 88)) none))))) (cond (Nat.blt pc 97) (cond (Nat.blt pc 92) (cond (Nat.blt pc 91) (cond (Nat.beq pc 88) (some (.invokestatic 55, 91)) none) (cond (Nat.beq pc 91) (some (.aload_n 1, 92)) none)) (cond (Nat.blt pc 95) (cond (Nat.beq pc 92) (some (.getfield 27, 95)) none) (cond (Nat.blt pc 96) (cond (Nat.beq pc 95) (some (.iconst 0, 96)) none) (cond (Nat.beq pc 96) (some (.aload_n 0, 97)) none)))) (cond (Nat.blt pc 101) (cond (Nat.blt pc 100) (cond (Nat.beq pc 97) (some (.getfield 27, 100)) none) (cond (Nat.beq pc 100) (some (.iconst 0, 101)) none)) (cond (Nat.blt pc 102) (cond (Nat.beq pc 101) (some (.iconst 4, 102)) none) (cond (Nat.blt pc 105) (cond (Nat.beq pc 102) (some (.invokestatic 55, 105)) none) (cond (Nat.beq pc 105) (some (.aload_n 0, 106)) none)))))) (cond (Nat.blt pc 125) (cond (Nat.blt pc 117) (cond (Nat.blt pc 110) (cond (Nat.blt pc 107) (cond (Nat.beq pc 106) (some (.aload_n 1, 107)) none) (cond (Nat.beq pc 107) (some (.getfield 40, 110)) none)) (cond (Nat.blt pc 113) (cond (Nat.beq pc 110) (some (.putfield 40, 113)) none) (cond (Nat.blt pc 114) (cond (Nat.beq pc 113) (some (.aload_n 1, 114)) none) (cond (Nat.beq pc 114) (some (.getfield 30, 117)) none)))) (cond (Nat.blt pc 119) (cond (Nat.blt pc 118) (cond (Nat.beq pc 117) (some (.iconst 0, 118)) none) (cond (Nat.beq pc 118) (some (.aload_n 0, 119)) none)) (cond (Nat.blt pc 122) (cond (Nat.beq pc 119) (some (.getfield 30, 122)) none) (cond (Nat.blt pc 123) (cond (Nat.beq pc 122) (some (.iconst 0, 123)) none) (cond (Nat.beq pc 123) (some (.bipush 48, 125)) none))))) (cond (Nat.blt pc 134) (cond (Nat.blt pc 129) (cond (Nat.blt pc 128) (cond (Nat.beq pc 125) (some (.invokestatic 55, 128)) none) (cond (Nat.beq pc 128) (some (.aload_n 1, 129)) none)) (cond (Nat.blt pc 132) (cond (Nat.beq pc 129) (some (.getfield 33, 132)) none) (cond (Nat.blt pc 133) (cond (Nat.beq pc 132) (some (.iconst 0, 133)) none) (cond (Nat.beq pc 133) (some (.aload_n 0, 134)) none)))) (cond (Nat.blt pc 138) (cond (Nat.blt pc 137) (cond (Nat.beq pc 134) (some (.getfield 33, 137)) none) (cond (Nat.beq pc 137) (some (.iconst 0, 138)) none)) (cond (Nat.blt pc 140) (cond (Nat.beq pc 138) (some (.bipush 48, 140)) none) (cond (Nat.blt pc 143) (cond (Nat.beq pc 140) (some (.invokestatic 55, 143)) none) (cond (Nat.beq pc 143) (some (.return_, 144)) none)))))))) none
-- CaseDesk$Plan.<init>()V
def xc_10 : Nat → Option (Instr × Nat) := fun pc => cond (Nat.blt pc 120) (cond (Nat.blt pc 63) (cond (Nat.blt pc 31) (cond (Nat.blt pc 15) (cond (Nat.blt pc 7) (cond (Nat.blt pc 4) (cond (Nat.blt pc 1) (cond (Nat.beq pc 0) (some (.aload_n 0, 1)) none) (cond (Nat.beq pc 1) (some (.invokespecial 3, 4)) none)) (cond (Nat.blt pc 5) (cond (Nat.beq pc 4) (some (.aload_n 0, 5)) none) (cond (Nat.beq pc 5) (some (.bipush 12, 7)) none))) (cond (Nat.blt pc 12) (cond (Nat.blt pc 9) (cond (Nat.beq pc 7) (some (.newarray .int, 9)) none) (cond (Nat.beq pc 9) (some (.putfield 9, 12)) none)) (cond (Nat.blt pc 13) (cond (Nat.beq pc 12) (some (.aload_n 0, 13)) none) (cond (Nat.beq pc 13) (some (.bipush 12, 15)) none)))) (cond (Nat.blt pc 23) (cond (Nat.blt pc 20) (cond (Nat.blt pc 17) (cond (Nat.beq pc 15) (some (.newarray .int, 17)) none) (cond (Nat.beq pc 17) (some (.putfield 15, 20)) none)) (cond (Nat.blt pc 21) (cond (Nat.beq pc 20) (some (.aload_n 0, 21)) none) (cond (Nat.beq pc 21) (some (.bipush 12, 23)) none))) (cond (Nat.blt pc 28) (cond (Nat.blt pc 25) (cond (Nat.beq pc 23) (some (.newarray .int, 25)) none) (cond (Nat.beq pc 25) (some (.putfield 18, 28)) none)) (cond (Nat.blt pc 29) (cond (Nat.beq pc 28) (some (.aload_n 0, 29)) none) (cond (Nat.beq pc 29) (some (.bipush 12, 31)) none))))) (cond (Nat.blt pc 47) (cond (Nat.blt pc 39) (cond (Nat.blt pc 36) (cond (Nat.blt pc 33) (cond (Nat.beq pc 31) (some (.newarray .int, 33)) none) (cond (Nat.beq pc 33) (some (.putfield 21, 36)) none)) (cond (Nat.blt pc 37) (cond (Nat.beq pc 36) (some (.aload_n 0, 37)) none) (cond (Nat.beq pc 37) (some (.bipush 16, 39)) none))) (cond (Nat.blt pc 44) (cond (Nat.blt pc 41) (cond (Nat.beq pc 39) (some (.newarray .int, 41)) none) (cond (Nat.beq pc 41) (some (.putfield 24, 44)) none)) (cond (Nat.blt pc 45) (cond (Nat.beq pc 44) (some (.aload_n 0, 45)) none) (cond (Nat.beq pc 45) (some (.bipush 16, 47)) none)))) (cond (Nat.blt pc 55) (cond (Nat.blt pc 52) (cond (Nat.blt pc 49) (cond (Nat.beq pc 47) (some (.newarray .boolean, 49)) none) (cond (Nat.beq pc 49) (some (.putfield 27, 52)) none)) (cond (Nat.blt pc 53) (cond (Nat.beq pc 52) (some (.aload_n 0, 53)) none) (cond (Nat.beq pc 53) (some (.bipush 16, 55)) none))) (cond (Nat.blt pc 60) (cond (Nat.blt pc 57) (cond (Nat.beq pc 55) (some (.newarray .int, 57)) none) (cond (Nat.beq pc 57) (some (.putfield 31, 60)) none)) (cond (Nat.blt pc 61) (cond (Nat.beq pc 60) (some (.aload_n 0, 61)) none) (cond (Nat.beq pc 61) (some (.bipush 32, 63)) none)))))) (cond (Nat.blt pc 95) (cond (Nat.blt pc 79) (cond (Nat.blt pc 71) (cond (Nat.blt pc 68) (cond (Nat.blt pc 65) (cond (Nat.beq pc 63) (some (.newarray .int, 65)) none) (cond (Nat.beq pc 65) (some (.putfield 34, 68)) none)) (cond (Nat.blt pc 69) (cond (Nat.beq pc 68) (some (.aload_n 0, 69)) none) (cond (Nat.beq pc 69) (some (.bipush 32, 71)) none))) (cond (Nat.blt pc 76) (cond (Nat.blt pc 73) (cond (Nat.beq pc 71) (some (.newarray .int, 73)) none) (cond (Nat.beq pc 73) (some (.putfield 37, 76)) none)) (cond (Nat.blt pc 77) (cond (Nat.beq pc 76) (some (.aload_n 0, 77)) none) (cond (Nat.beq pc 77) (some (.bipush 16, 79)) none)))) (cond (Nat.blt pc 87) (cond (Nat.blt pc 84) (cond (Nat.blt pc 81) (cond (Nat.beq pc 79) (some (.newarray .int, 81)) none) (cond (Nat.beq pc 81) (some (.putfield 40, 84)) none)) (cond (Nat.blt pc 85) (cond (Nat.beq pc 84) (some (.aload_n 0, 85)) none) (cond (Nat.beq pc 85) (some (.bipush 16, 87)) none))) (cond (Nat.blt pc 92) (cond (Nat.blt pc 89) (cond (Nat.beq pc 87) (some (.newarray .int, 89)) none) (cond (Nat.beq pc 89) (some (.putfield 43, 92)) none)) (cond (Nat.blt pc 93) (cond (Nat.beq pc 92) (some (.aload_n 0, 93)) none) (cond (Nat.beq pc 93) (some (.bipush 16, 95)) none))))) (cond (Nat.blt pc 108) (cond (Nat.blt pc 104) (cond (Nat.blt pc 100) (cond (Nat.blt pc 97) (cond (Nat.beq pc 95) (some (.newarray .int, 97)) none) (cond (Nat.beq pc 97) (some (.putfield 46, 100)) none)) (cond (Nat.blt pc 101) (cond (Nat.beq pc 100) (some (.aload_n 0, 101)) none) (cond (Nat.beq pc 101) (some (.getfield 9, 104)) none))) (cond (Nat.blt pc 106) (cond (Nat.blt pc 105) (cond (Nat.beq pc 104) (some (.iconst 0, 105)) none) (cond (Nat.beq pc 105) (some (.iconst 0, 106)) none)) (cond (Nat.blt pc 107) (cond (Nat.beq pc 106) (some (.iastore, 107)) none) (cond (Nat.beq pc 107) (some (.aload_n 0, 108)) none)))) (cond (Nat.blt pc 114) (cond (Nat.blt pc 112) (cond (Nat.blt pc 111) (cond (Nat.beq pc 108) (some (.getfield 15, 111)) none) (cond (Nat.beq pc 111) (some (.iconst 0, 112)) none)) (cond (Nat.blt pc 113) (cond (Nat.beq pc 112) (some (.iconst (-1), 113)) none) (cond (Nat.beq pc 113) (some (.iastore, 114)) none))) (cond (Nat.blt pc 116) (cond (Nat.blt pc 115) (cond (Nat.beq pc 114) (some (.aload_n 0, 115)) none) (cond (Nat.beq pc 115) (some (.iconst 1, 116)) none)) (cond (Nat.blt pc 119) (cond (Nat.beq pc 116) (some (.putfield 49, 119)) none) (cond (Nat.beq pc 119) (some (.return_, 120)) none))))))) none
-- CaseDesk$Plan.partBit(II)I
def xc_11 : Nat → Option (Instr × Nat) := fun pc => cond (Nat.blt pc 8) (cond (Nat.blt pc 4) (cond (Nat.blt pc 2) (cond (Nat.blt pc 1) (cond (Nat.beq pc 0) (some (.iconst 1, 1)) none) (cond (Nat.beq pc 1) (some (.iload_n 0, 2)) none)) (cond (Nat.blt pc 3) (cond (Nat.beq pc 2) (some (.iconst 2, 3)) none) (cond (Nat.beq pc 3) (some (.imul, 4)) none))) (cond (Nat.blt pc 6) (cond (Nat.blt pc 5) (cond (Nat.beq pc 4) (some (.iload_n 1, 5)) none) (cond (Nat.beq pc 5) (some (.iadd, 6)) none)) (cond (Nat.blt pc 7) (cond (Nat.beq pc 6) (some (.ishl, 7)) none) (cond (Nat.beq pc 7) (some (.ireturn, 8)) none)))) none
-- CaseDesk$Plan.hasItem(I)Z
def xc_12 : Nat → Option (Instr × Nat) := fun pc => cond (Nat.blt pc 18) (cond (Nat.blt pc 9) (cond (Nat.blt pc 4) (cond (Nat.blt pc 1) (cond (Nat.beq pc 0) (some (.iload_n 1, 1)) none) (cond (Nat.beq pc 1) (some (.ifCond .lt 15, 16)) none)) (cond (Nat.blt pc 5) (cond (Nat.beq pc 4) (some (.iload_n 1, 5)) none) (cond (Nat.blt pc 6) (cond (Nat.beq pc 5) (some (.aload_n 0, 6)) none) (cond (Nat.beq pc 6) (some (.getfield 49, 9)) none)))) (cond (Nat.blt pc 13) (cond (Nat.blt pc 12) (cond (Nat.beq pc 9) (some (.if_icmp .ge 7, 16)) none) (cond (Nat.beq pc 12) (some (.iconst 1, 13)) none)) (cond (Nat.blt pc 16) (cond (Nat.beq pc 13) (some (.goto 4, 17)) none) (cond (Nat.blt pc 17) (cond (Nat.beq pc 16) (some (.iconst 0, 17)) none) (cond (Nat.beq pc 17) (some (.ireturn, 18)) none))))) none
-- CaseDesk$Plan.isStage(I)Z
def xc_13 : Nat → Option (Instr × Nat) := fun pc => cond (Nat.blt pc 23) (cond (Nat.blt pc 12) (cond (Nat.blt pc 5) (cond (Nat.blt pc 1) (cond (Nat.beq pc 0) (some (.aload_n 0, 1)) none) (cond (Nat.blt pc 2) (cond (Nat.beq pc 1) (some (.iload_n 1, 2)) none) (cond (Nat.beq pc 2) (some (.invokevirtual 53, 5)) none))) (cond (Nat.blt pc 8) (cond (Nat.beq pc 5) (some (.ifCond .eq 16, 21)) none) (cond (Nat.blt pc 9) (cond (Nat.beq pc 8) (some (.aload_n 0, 9)) none) (cond (Nat.beq pc 9) (some (.getfield 9, 12)) none)))) (cond (Nat.blt pc 17) (cond (Nat.blt pc 13) (cond (Nat.beq pc 12) (some (.iload_n 1, 13)) none) (cond (Nat.blt pc 14) (cond (Nat.beq pc 13) (some (.iaload, 14)) none) (cond (Nat.beq pc 14) (some (.ifCond .ne 7, 21)) none))) (cond (Nat.blt pc 21) (cond (Nat.blt pc 18) (cond (Nat.beq pc 17) (some (.iconst 1, 18)) none) (cond (Nat.beq pc 18) (some (.goto 4, 22)) none)) (cond (Nat.blt pc 22) (cond (Nat.beq pc 21) (some (.iconst 0, 22)) none) (cond (Nat.beq pc 22) (some (.ireturn, 23)) none))))) none
-- CaseDesk$Plan.hasFlag(II)Z
def xc_14 : Nat → Option (Instr × Nat) := fun pc => cond (Nat.blt pc 17) (cond (Nat.blt pc 7) (cond (Nat.blt pc 4) (cond (Nat.blt pc 1) (cond (Nat.beq pc 0) (some (.aload_n 0, 1)) none) (cond (Nat.beq pc 1) (some (.getfield 18, 4)) none)) (cond (Nat.blt pc 5) (cond (Nat.beq pc 4) (some (.iload_n 1, 5)) none) (cond (Nat.blt pc 6) (cond (Nat.beq pc 5) (some (.iaload, 6)) none) (cond (Nat.beq pc 6) (some (.iload_n 2, 7)) none)))) (cond (Nat.blt pc 12) (cond (Nat.blt pc 8) (cond (Nat.beq pc 7) (some (.iand, 8)) none) (cond (Nat.blt pc 11) (cond (Nat.beq pc 8) (some (.ifCond .eq 7, 15)) none) (cond (Nat.beq pc 11) (some (.iconst 1, 12)) none))) (cond (Nat.blt pc 15) (cond (Nat.beq pc 12) (some (.goto 4, 16)) none) (cond (Nat.blt pc 16) (cond (Nat.beq pc 15) (some (.iconst 0, 16)) none) (cond (Nat.beq pc 16) (some (.ireturn, 17)) none))))) none
-- CaseDesk$Plan.hasEntry(I)Z
def xc_15 : Nat → Option (Instr × Nat) := fun pc => cond (Nat.blt pc 39) (cond (Nat.blt pc 17) (cond (Nat.blt pc 7) (cond (Nat.blt pc 2) (cond (Nat.blt pc 1) (cond (Nat.beq pc 0) (some (.iconst 0, 1)) none) (cond (Nat.beq pc 1) (some (.istore_n 2, 2)) none)) (cond (Nat.blt pc 3) (cond (Nat.beq pc 2) (some (.iload_n 2, 3)) none) (cond (Nat.blt pc 4) (cond (Nat.beq pc 3) (some (.aload_n 0, 4)) none) (cond (Nat.beq pc 4) (some (.getfield 57, 7)) none)))) (cond (Nat.blt pc 14) (cond (Nat.blt pc 10) (cond (Nat.beq pc 7) (some (.if_icmp .ge 30, 37)) none) (cond (Nat.blt pc 11) (cond (Nat.beq pc 10) (some (.aload_n 0, 11)) none) (cond (Nat.beq pc 11) (some (.getfield 24, 14)) none))) (cond (Nat.blt pc 15) (cond (Nat.beq pc 14) (some (.iload_n 2, 15)) none) (cond (Nat.blt pc 16) (cond (Nat.beq pc 15) (some (.iaload, 16)) none) (cond (Nat.beq pc 16) (some (.iload_n 1, 17)) none))))) (cond (Nat.blt pc 29) (cond (Nat.blt pc 24) (cond (Nat.blt pc 20) (cond (Nat.beq pc 17) (some (.if_icmp .ne 14, 31)) none) (cond (Nat.blt pc 21) (cond (Nat.beq pc 20) (some (.aload_n 0, 21)) none) (cond (Nat.beq pc 21) (some (.getfield 27, 24)) none))) (cond (Nat.blt pc 25) (cond (Nat.beq pc 24) (some (.iload_n 2, 25)) none) (cond (Nat.blt pc 26) (cond (Nat.beq pc 25) (some (.baload, 26)) none) (cond (Nat.beq pc 26) (some (.ifCond .ne 5, 31)) none)))) (cond (Nat.blt pc 34) (cond (Nat.blt pc 30) (cond (Nat.beq pc 29) (some (.iconst 1, 30)) none) (cond (Nat.blt pc 31) (cond (Nat.beq pc 30) (some (.ireturn, 31)) none) (cond (Nat.beq pc 31) (some (.iinc 2 1, 34)) none))) (cond (Nat.blt pc 37) (cond (Nat.beq pc 34) (some (.goto (-32), 2)) none) (cond (Nat.blt pc 38) (cond (Nat.beq pc 37) (some (.iconst 0, 38)) none) (cond (Nat.beq pc 38) (some (.ireturn, 39)) none)))))) none
-- CaseDesk$Plan.addItem(III)I
def xc_16 : Nat → Option (Instr × Nat) := fun pc => cond (Nat.blt pc 47) (cond (Nat.blt pc 24) (cond (Nat.blt pc 11) (cond (Nat.blt pc 5) (cond (Nat.blt pc 1) (cond (Nat.beq pc 0) (some (.aload_n 0, 1)) none) (cond (Nat.blt pc 4) (cond (Nat.beq pc 1) (some (.getfield 9, 4)) none) (cond (Nat.beq pc 4) (some (.aload_n 0, 5)) none))) (cond (Nat.blt pc 9) (cond (Nat.blt pc 8) (cond (Nat.beq pc 5) (some (.getfield 49, 8)) none) (cond (Nat.beq pc 8) (some (.iload_n 1, 9)) none)) (cond (Nat.blt pc 10) (cond (Nat.beq pc 9) (some (.iastore, 10)) none) (cond (Nat.beq pc 10) (some (.aload_n 0, 11)) none)))) (cond (Nat.blt pc 18) (cond (Nat.blt pc 14) (cond (Nat.beq pc 11) (some (.getfield 15, 14)) none) (cond (Nat.blt pc 15) (cond (Nat.beq pc 14) (some (.aload_n 0, 15)) none) (cond (Nat.beq pc 15) (some (.getfield 49, 18)) none))) (cond (Nat.blt pc 20) (cond (Nat.blt pc 19) (cond (Nat.beq pc 18) (some (.iload_n 2, 19)) none) (cond (Nat.beq pc 19) (some (.iastore, 20)) none)) (cond (Nat.blt pc 21) (cond (Nat.beq pc 20) (some (.aload_n 0, 21)) none) (cond (Nat.beq pc 21) (some (.getfield 18, 24)) none))))) (cond (Nat.blt pc 35) (cond (Nat.blt pc 29) (cond (Nat.blt pc 25) (cond (Nat.beq pc 24) (some (.aload_n 0, 25)) none) (cond (Nat.blt pc 28) (cond (Nat.beq pc 25) (some (.getfield 49, 28)) none) (cond (Nat.beq pc 28) (some (.iload_n 3, 29)) none))) (cond (Nat.blt pc 31) (cond (Nat.blt pc 30) (cond (Nat.beq pc 29) (some (.iastore, 30)) none) (cond (Nat.beq pc 30) (some (.aload_n 0, 31)) none)) (cond (Nat.blt pc 32) (cond (Nat.beq pc 31) (some (.dup, 32)) none) (cond (Nat.beq pc 32) (some (.getfield 49, 35)) none)))) (cond (Nat.blt pc 41) (cond (Nat.blt pc 37) (cond (Nat.blt pc 36) (cond (Nat.beq pc 35) (some (.iconst 1, 36)) none) (cond (Nat.beq pc 36) (some (.iadd, 37)) none)) (cond (Nat.blt pc 40) (cond (Nat.beq pc 37) (some (.putfield 49, 40)) none) (cond (Nat.beq pc 40) (some (.aload_n 0, 41)) none))) (cond (Nat.blt pc 45) (cond (Nat.blt pc 44) (cond (Nat.beq pc 41) (some (.getfield 49, 44)) none) (cond (Nat.beq pc 44) (some (.iconst 1, 45)) none)) (cond (Nat.blt pc 46) (cond (Nat.beq pc 45) (some (.isub, 46)) none) (cond (Nat.beq pc 46) (some (.ireturn, 47)) none)))))) none
-- CaseDesk$Plan.mayHaveSentry(IZ)Z
def xc_17 : Nat → Option (Instr × Nat) := fun pc => cond (Nat.blt pc 53) (cond (Nat.blt pc 27) (cond (Nat.blt pc 13) (cond (Nat.blt pc 5) (cond (Nat.blt pc 1) (cond (Nat.beq pc 0) (some (.aload_n 0, 1)) none) (cond (Nat.blt pc 2) (cond (Nat.beq pc 1) (some (.iload_n 1, 2)) none) (cond (Nat.beq pc 2) (some (.invokevirtual 53, 5)) none))) (cond (Nat.blt pc 9) (cond (Nat.blt pc 8) (cond (Nat.beq pc 5) (some (.ifCond .eq 7, 12)) none) (cond (Nat.beq pc 8) (some (.iload_n 1, 9)) none)) (cond (Nat.blt pc 12) (cond (Nat.beq pc 9) (some (.ifCond .ne 5, 14)) none) (cond (Nat.beq pc 12) (some (.iconst 0, 13)) none)))) (cond (Nat.blt pc 19) (cond (Nat.blt pc 15) (cond (Nat.blt pc 14) (cond (Nat.beq pc 13) (some (.ireturn, 14)) none) (cond (Nat.beq pc 14) (some (.aload_n 0, 15)) none)) (cond (Nat.blt pc 18) (cond (Nat.beq pc 15) (some (.getfield 9, 18)) none) (cond (Nat.beq pc 18) (some (.iload_n 1, 19)) none))) (cond (Nat.blt pc 23) (cond (Nat.blt pc 20) (cond (Nat.beq pc 19) (some (.iaload, 20)) none) (cond (Nat.beq pc 20) (some (.ifCond .eq 27, 47)) none)) (cond (Nat.blt pc 24) (cond (Nat.beq pc 23) (some (.aload_n 0, 24)) none) (cond (Nat.beq pc 24) (some (.getfield 9, 27)) none))))) (cond (Nat.blt pc 39) (cond (Nat.blt pc 33) (cond (Nat.blt pc 29) (cond (Nat.blt pc 28) (cond (Nat.beq pc 27) (some (.iload_n 1, 28)) none) (cond (Nat.beq pc 28) (some (.iaload, 29)) none)) (cond (Nat.blt pc 30) (cond (Nat.beq pc 29) (some (.iconst 1, 30)) none) (cond (Nat.beq pc 30) (some (.if_icmp .eq 17, 47)) none))) (cond (Nat.blt pc 37) (cond (Nat.blt pc 34) (cond (Nat.beq pc 33) (some (.aload_n 0, 34)) none) (cond (Nat.beq pc 34) (some (.getfield 9, 37)) none)) (cond (Nat.blt pc 38) (cond (Nat.beq pc 37) (some (.iload_n 1, 38)) none) (cond (Nat.beq pc 38) (some (.iaload, 39)) none)))) (cond (Nat.blt pc 47) (cond (Nat.blt pc 43) (cond (Nat.blt pc 40) (cond (Nat.beq pc 39) (some (.iconst 2, 40)) none) (cond (Nat.beq pc 40) (some (.if_icmp .ne 11, 51)) none)) (cond (Nat.blt pc 44) (cond (Nat.beq pc 43) (some (.iload_n 2, 44)) none) (cond (Nat.beq pc 44) (some (.ifCond .ne 7, 51)) none))) (cond (Nat.blt pc 51) (cond (Nat.blt pc 48) (cond (Nat.beq pc 47) (some (.iconst 1, 48)) none) (cond (Nat.beq pc 48) (some (.goto 4, 52)) none)) (cond (Nat.blt pc 52) (cond (Nat.beq pc 51) (some (.iconst 0, 52)) none) (cond (Nat.beq pc 52) (some (.ireturn, 53)) none)))))) none
-- CaseDesk$Plan.addSentry(IZ)I
def xc_18 : Nat → Option (Instr × Nat) := fun pc => cond (Nat.blt pc 68) (cond (Nat.blt pc 31) (cond (Nat.blt pc 16) (cond (Nat.blt pc 9) (cond (Nat.blt pc 4) (cond (Nat.blt pc 1) (cond (Nat.beq pc 0) (some (.aload_n 0, 1)) none) (cond (Nat.beq pc 1) (some (.getfield 57, 4)) none)) (cond (Nat.blt pc 5) (cond (Nat.beq pc 4) (some (.istore_n 3, 5)) none) (cond (Nat.blt pc 6) (cond (Nat.beq pc 5) (some (.aload_n 0, 6)) none) (cond (Nat.beq pc 6) (some (.getfield 24, 9)) none)))) (cond (Nat.blt pc 11) (cond (Nat.blt pc 10) (cond (Nat.beq pc 9) (some (.iload_n 3, 10)) none) (cond (Nat.beq pc 10) (some (.iload_n 1, 11)) none)) (cond (Nat.blt pc 12) (cond (Nat.beq pc 11) (some (.iastore, 12)) none) (cond (Nat.blt pc 13) (cond (Nat.beq pc 12) (some (.aload_n 0, 13)) none) (cond (Nat.beq pc 13) (some (.getfield 27, 16)) none))))) (cond (Nat.blt pc 23) (cond (Nat.blt pc 18) (cond (Nat.blt pc 17) (cond (Nat.beq pc 16) (some (.iload_n 3, 17)) none) (cond (Nat.beq pc 17) (some (.iload_n 2, 18)) none)) (cond (Nat.blt pc 19) (cond (Nat.beq pc 18) (some (.bastore, 19)) none) (cond (Nat.blt pc 20) (cond (Nat.beq pc 19) (some (.aload_n 0, 20)) none) (cond (Nat.beq pc 20) (some (.getfield 40, 23)) none)))) (cond (Nat.blt pc 26) (cond (Nat.blt pc 24) (cond (Nat.beq pc 23) (some (.iload_n 3, 24)) none) (cond (Nat.blt pc 25) (cond (Nat.beq pc 24) (some (.iconst (-1), 25)) none) (cond (Nat.beq pc 25) (some (.iastore, 26)) none))) (cond (Nat.blt pc 27) (cond (Nat.beq pc 26) (some (.iconst 0, 27)) none) (cond (Nat.blt pc 29) (cond (Nat.beq pc 27) (some (.istore 4, 29)) none) (cond (Nat.beq pc 29) (some (.iload 4, 31)) none)))))) (cond (Nat.blt pc 49) (cond (Nat.blt pc 40) (cond (Nat.blt pc 35) (cond (Nat.blt pc 32) (cond (Nat.beq pc 31) (some (.iconst 2, 32)) none) (cond (Nat.beq pc 32) (some (.if_icmp .ge 24, 56)) none)) (cond (Nat.blt pc 36) (cond (Nat.beq pc 35) (some (.aload_n 0, 36)) none) (cond (Nat.blt pc 39) (cond (Nat.beq pc 36) (some (.getfield 21, 39)) none) (cond (Nat.beq pc 39) (some (.iload_n 1, 40)) none)))) (cond (Nat.blt pc 43) (cond (Nat.blt pc 41) (cond (Nat.beq pc 40) (some (.dup2, 41)) none) (cond (Nat.blt pc 42) (cond (Nat.beq pc 41) (some (.iaload, 42)) none) (cond (Nat.beq pc 42) (some (.iload_n 3, 43)) none))) (cond (Nat.blt pc 45) (cond (Nat.beq pc 43) (some (.iload 4, 45)) none) (cond (Nat.blt pc 48) (cond (Nat.beq pc 45) (some (.invokestatic 60, 48)) none) (cond (Nat.beq pc 48) (some (.ior, 49)) none))))) (cond (Nat.blt pc 58) (cond (Nat.blt pc 53) (cond (Nat.blt pc 50) (cond (Nat.beq pc 49) (some (.iastore, 50)) none) (cond (Nat.beq pc 50) (some (.iinc 4 1, 53)) none)) (cond (Nat.blt pc 56) (cond (Nat.beq pc 53) (some (.goto (-24), 29)) none) (cond (Nat.blt pc 57) (cond (Nat.beq pc 56) (some (.aload_n 0, 57)) none) (cond (Nat.beq pc 57) (some (.dup, 58)) none)))) (cond (Nat.blt pc 63) (cond (Nat.blt pc 61) (cond (Nat.beq pc 58) (some (.getfield 57, 61)) none) (cond (Nat.blt pc 62) (cond (Nat.beq pc 61) (some (.iconst 1, 62)) none) (cond (Nat.beq pc 62) (some (.iadd, 63)) none))) (cond (Nat.blt pc 66) (cond (Nat.beq pc 63) (some (.putfield 57, 66)) none) (cond (Nat.blt pc 67) (cond (Nat.beq pc 66) (some (.iload_n 3, 67)) none) (cond (Nat.beq pc 67) (some (.ireturn, 68)) none))))))) none
-- CaseDesk$Plan.hasSentry(I)Z
def xc_19 : Nat → Option (Instr × Nat) := fun pc => cond (Nat.blt pc 18) (cond (Nat.blt pc 9) (cond (Nat.blt pc 4) (cond (Nat.blt pc 1) (cond (Nat.beq pc 0) (some (.iload_n 1, 1)) none) (cond (Nat.beq pc 1) (some (.ifCond .lt 15, 16)) none)) (cond (Nat.blt pc 5) (cond (Nat.beq pc 4) (some (.iload_n 1, 5)) none) (cond (Nat.blt pc 6) (cond (Nat.beq pc 5) (some (.aload_n 0, 6)) none) (cond (Nat.beq pc 6) (some (.getfield 57, 9)) none)))) (cond (Nat.blt pc 13) (cond (Nat.blt pc 12) (cond (Nat.beq pc 9) (some (.if_icmp .ge 7, 16)) none) (cond (Nat.beq pc 12) (some (.iconst 1, 13)) none)) (cond (Nat.blt pc 16) (cond (Nat.beq pc 13) (some (.goto 4, 17)) none) (cond (Nat.blt pc 17) (cond (Nat.beq pc 16) (some (.iconst 0, 17)) none) (cond (Nat.beq pc 17) (some (.ireturn, 18)) none))))) none
-- CaseDesk$Plan.hasAllParts(I)Z
def xc_20 : Nat → Option (Instr × Nat) := fun pc => cond (Nat.blt pc 24) (cond (Nat.blt pc 13) (cond (Nat.blt pc 5) (cond (Nat.blt pc 1) (cond (Nat.beq pc 0) (some (.aload_n 0, 1)) none) (cond (Nat.blt pc 2) (cond (Nat.beq pc 1) (some (.iload_n 1, 2)) none) (cond (Nat.beq pc 2) (some (.invokevirtual 64, 5)) none))) (cond (Nat.blt pc 9) (cond (Nat.blt pc 8) (cond (Nat.beq pc 5) (some (.ifCond .eq 17, 22)) none) (cond (Nat.beq pc 8) (some (.aload_n 0, 9)) none)) (cond (Nat.blt pc 12) (cond (Nat.beq pc 9) (some (.getfield 31, 12)) none) (cond (Nat.beq pc 12) (some (.iload_n 1, 13)) none)))) (cond (Nat.blt pc 18) (cond (Nat.blt pc 14) (cond (Nat.beq pc 13) (some (.iaload, 14)) none) (cond (Nat.blt pc 15) (cond (Nat.beq pc 14) (some (.iconst 2, 15)) none) (cond (Nat.beq pc 15) (some (.if_icmp .ne 7, 22)) none))) (cond (Nat.blt pc 22) (cond (Nat.blt pc 19) (cond (Nat.beq pc 18) (some (.iconst 1, 19)) none) (cond (Nat.beq pc 19) (some (.goto 4, 23)) none)) (cond (Nat.blt pc 23) (cond (Nat.beq pc 22) (some (.iconst 0, 23)) none) (cond (Nat.beq pc 23) (some (.ireturn, 24)) none))))) none
-- CaseDesk$Plan.mayHear(III)Z
def xc_21 : Nat → Option (Instr × Nat) := fun pc => cond (Nat.blt pc 68) (cond (Nat.blt pc 33) (cond (Nat.blt pc 15) (cond (Nat.blt pc 7) (cond (Nat.blt pc 3) (cond (Nat.blt pc 1) (cond (Nat.beq pc 0) (some (.iload_n 2, 1)) none) (cond (Nat.beq pc 1) (some (.bipush 100, 3)) none)) (cond (Nat.blt pc 6) (cond (Nat.beq pc 3) (some (.if_icmp .lt 11, 14)) none) (cond (Nat.beq pc 6) (some (.iload_n 2, 7)) none))) (cond (Nat.blt pc 10) (cond (Nat.blt pc 9) (cond (Nat.beq pc 7) (some (.bipush 100, 9)) none) (cond (Nat.beq pc 9) (some (.isub, 10)) none)) (cond (Nat.blt pc 13) (cond (Nat.beq pc 10) (some (.invokestatic 67, 13)) none) (cond (Nat.blt pc 14) (cond (Nat.beq pc 13) (some (.ireturn, 14)) none) (cond (Nat.beq pc 14) (some (.aload_n 0, 15)) none))))) (cond (Nat.blt pc 24) (cond (Nat.blt pc 19) (cond (Nat.blt pc 16) (cond (Nat.beq pc 15) (some (.iload_n 2, 16)) none) (cond (Nat.beq pc 16) (some (.invokevirtual 53, 19)) none)) (cond (Nat.blt pc 22) (cond (Nat.beq pc 19) (some (.ifCond .eq 47, 66)) none) (cond (Nat.blt pc 23) (cond (Nat.beq pc 22) (some (.iload_n 2, 23)) none) (cond (Nat.beq pc 23) (some (.aload_n 0, 24)) none)))) (cond (Nat.blt pc 28) (cond (Nat.blt pc 27) (cond (Nat.beq pc 24) (some (.getfield 24, 27)) none) (cond (Nat.beq pc 27) (some (.iload_n 1, 28)) none)) (cond (Nat.blt pc 29) (cond (Nat.beq pc 28) (some (.iaload, 29)) none) (cond (Nat.blt pc 32) (cond (Nat.beq pc 29) (some (.if_icmp .eq 37, 66)) none) (cond (Nat.beq pc 32) (some (.aload_n 0, 33)) none)))))) (cond (Nat.blt pc 49) (cond (Nat.blt pc 42) (cond (Nat.blt pc 37) (cond (Nat.blt pc 36) (cond (Nat.beq pc 33) (some (.getfield 15, 36)) none) (cond (Nat.beq pc 36) (some (.iload_n 2, 37)) none)) (cond (Nat.blt pc 38) (cond (Nat.beq pc 37) (some (.iaload, 38)) none) (cond (Nat.blt pc 39) (cond (Nat.beq pc 38) (some (.aload_n 0, 39)) none) (cond (Nat.beq pc 39) (some (.getfield 15, 42)) none)))) (cond (Nat.blt pc 46) (cond (Nat.blt pc 43) (cond (Nat.beq pc 42) (some (.aload_n 0, 43)) none) (cond (Nat.beq pc 43) (some (.getfield 24, 46)) none)) (cond (Nat.blt pc 47) (cond (Nat.beq pc 46) (some (.iload_n 1, 47)) none) (cond (Nat.blt pc 48) (cond (Nat.beq pc 47) (some (.iaload, 48)) none) (cond (Nat.beq pc 48) (some (.iaload, 49)) none))))) (cond (Nat.blt pc 59) (cond (Nat.blt pc 53) (cond (Nat.blt pc 52) (cond (Nat.beq pc 49) (some (.if_icmp .ne 17, 66)) none) (cond (Nat.beq pc 52) (some (.iload_n 3, 53)) none)) (cond (Nat.blt pc 56) (cond (Nat.beq pc 53) (some (.ifCond .lt 13, 66)) none) (cond (Nat.blt pc 57) (cond (Nat.beq pc 56) (some (.iload_n 3, 57)) none) (cond (Nat.beq pc 57) (some (.bipush 9, 59)) none)))) (cond (Nat.blt pc 63) (cond (Nat.blt pc 62) (cond (Nat.beq pc 59) (some (.if_icmp .gt 7, 66)) none) (cond (Nat.beq pc 62) (some (.iconst 1, 63)) none)) (cond (Nat.blt pc 66) (cond (Nat.beq pc 63) (some (.goto 4, 67)) none) (cond (Nat.blt pc 67) (cond (Nat.beq pc 66) (some (.iconst 0, 67)) none) (cond (Nat.beq pc 67) (some (.ireturn, 68)) none))))))) none
-- CaseDesk$Plan.addPart(III)I
def xc_22 : Nat → Option (Instr × Nat) := fun pc => cond (Nat.blt pc 55) (cond (Nat.blt pc 27) (cond (Nat.blt pc 12) (cond (Nat.blt pc 4) (cond (Nat.blt pc 2) (cond (Nat.blt pc 1) (cond (Nat.beq pc 0) (some (.iload_n 1, 1)) none) (cond (Nat.beq pc 1) (some (.iconst 2, 2)) none)) (cond (Nat.blt pc 3) (cond (Nat.beq pc 2) (some (.imul, 3)) none) (cond (Nat.beq pc 3) (some (.aload_n 0, 4)) none))) (cond (Nat.blt pc 8) (cond (Nat.blt pc 7) (cond (Nat.beq pc 4) (some (.getfield 31, 7)) none) (cond (Nat.beq pc 7) (some (.iload_n 1, 8)) none)) (cond (Nat.blt pc 9) (cond (Nat.beq pc 8) (some (.iaload, 9)) none) (cond (Nat.blt pc 10) (cond (Nat.beq pc 9) (some (.iadd, 10)) none) (cond (Nat.beq pc 10) (some (.istore 4, 12)) none))))) (cond (Nat.blt pc 19) (cond (Nat.blt pc 16) (cond (Nat.blt pc 13) (cond (Nat.beq pc 12) (some (.aload_n 0, 13)) none) (cond (Nat.beq pc 13) (some (.getfield 34, 16)) none)) (cond (Nat.blt pc 18) (cond (Nat.beq pc 16) (some (.iload 4, 18)) none) (cond (Nat.beq pc 18) (some (.iload_n 2, 19)) none))) (cond (Nat.blt pc 21) (cond (Nat.blt pc 20) (cond (Nat.beq pc 19) (some (.iastore, 20)) none) (cond (Nat.beq pc 20) (some (.aload_n 0, 21)) none)) (cond (Nat.blt pc 24) (cond (Nat.beq pc 21) (some (.getfield 37, 24)) none) (cond (Nat.blt pc 26) (cond (Nat.beq pc 24) (some (.iload 4, 26)) none) (cond (Nat.beq pc 26) (some (.iload_n 2, 27)) none)))))) (cond (Nat.blt pc 43) (cond (Nat.blt pc 36) (cond (Nat.blt pc 32) (cond (Nat.blt pc 29) (cond (Nat.beq pc 27) (some (.bipush 100, 29)) none) (cond (Nat.beq pc 29) (some (.if_icmp .lt 7, 36)) none)) (cond (Nat.blt pc 33) (cond (Nat.beq pc 32) (some (.iconst (-1), 33)) none) (cond (Nat.beq pc 33) (some (.goto 4, 37)) none))) (cond (Nat.blt pc 38) (cond (Nat.blt pc 37) (cond (Nat.beq pc 36) (some (.iload_n 3, 37)) none) (cond (Nat.beq pc 37) (some (.iastore, 38)) none)) (cond (Nat.blt pc 39) (cond (Nat.beq pc 38) (some (.aload_n 0, 39)) none) (cond (Nat.blt pc 42) (cond (Nat.beq pc 39) (some (.getfield 31, 42)) none) (cond (Nat.beq pc 42) (some (.iload_n 1, 43)) none))))) (cond (Nat.blt pc 48) (cond (Nat.blt pc 45) (cond (Nat.blt pc 44) (cond (Nat.beq pc 43) (some (.dup2, 44)) none) (cond (Nat.beq pc 44) (some (.iaload, 45)) none)) (cond (Nat.blt pc 46) (cond (Nat.beq pc 45) (some (.iconst 1, 46)) none) (cond (Nat.blt pc 47) (cond (Nat.beq pc 46) (some (.iadd, 47)) none) (cond (Nat.beq pc 47) (some (.iastore, 48)) none)))) (cond (Nat.blt pc 52) (cond (Nat.blt pc 49) (cond (Nat.beq pc 48) (some (.aload_n 0, 49)) none) (cond (Nat.beq pc 49) (some (.getfield 31, 52)) none)) (cond (Nat.blt pc 53) (cond (Nat.beq pc 52) (some (.iload_n 1, 53)) none) (cond (Nat.blt pc 54) (cond (Nat.beq pc 53) (some (.iaload, 54)) none) (cond (Nat.beq pc 54) (some (.ireturn, 55)) none))))))) none
-- CaseDesk$Plan.putIfPart(IIII)V
def xc_23 : Nat → Option (Instr × Nat) := fun pc => cond (Nat.blt pc 23) (cond (Nat.blt pc 12) (cond (Nat.blt pc 6) (cond (Nat.blt pc 4) (cond (Nat.blt pc 1) (cond (Nat.beq pc 0) (some (.aload_n 0, 1)) none) (cond (Nat.beq pc 1) (some (.getfield 43, 4)) none)) (cond (Nat.blt pc 5) (cond (Nat.beq pc 4) (some (.iload_n 1, 5)) none) (cond (Nat.beq pc 5) (some (.iload_n 2, 6)) none))) (cond (Nat.blt pc 8) (cond (Nat.blt pc 7) (cond (Nat.beq pc 6) (some (.iastore, 7)) none) (cond (Nat.beq pc 7) (some (.aload_n 0, 8)) none)) (cond (Nat.blt pc 11) (cond (Nat.beq pc 8) (some (.getfield 40, 11)) none) (cond (Nat.beq pc 11) (some (.iload_n 1, 12)) none)))) (cond (Nat.blt pc 18) (cond (Nat.blt pc 14) (cond (Nat.blt pc 13) (cond (Nat.beq pc 12) (some (.iload_n 3, 13)) none) (cond (Nat.beq pc 13) (some (.iastore, 14)) none)) (cond (Nat.blt pc 15) (cond (Nat.beq pc 14) (some (.aload_n 0, 15)) none) (cond (Nat.beq pc 15) (some (.getfield 46, 18)) none))) (cond (Nat.blt pc 21) (cond (Nat.blt pc 19) (cond (Nat.beq pc 18) (some (.iload_n 1, 19)) none) (cond (Nat.beq pc 19) (some (.iload 4, 21)) none)) (cond (Nat.blt pc 22) (cond (Nat.beq pc 21) (some (.iastore, 22)) none) (cond (Nat.beq pc 22) (some (.return_, 23)) none))))) none
-- CaseDesk$Plan.partsHearing(II)I
def xc_24 : Nat → Option (Instr × Nat) := fun pc => cond (Nat.blt pc 84) (cond (Nat.blt pc 39) (cond (Nat.blt pc 19) (cond (Nat.blt pc 7) (cond (Nat.blt pc 2) (cond (Nat.blt pc 1) (cond (Nat.beq pc 0) (some (.iconst 0, 1)) none) (cond (Nat.beq pc 1) (some (.istore_n 3, 2)) none)) (cond (Nat.blt pc 3) (cond (Nat.beq pc 2) (some (.iconst 0, 3)) none) (cond (Nat.blt pc 5) (cond (Nat.beq pc 3) (some (.istore 4, 5)) none) (cond (Nat.beq pc 5) (some (.iload 4, 7)) none)))) (cond (Nat.blt pc 14) (cond (Nat.blt pc 8) (cond (Nat.beq pc 7) (some (.aload_n 0, 8)) none) (cond (Nat.blt pc 11) (cond (Nat.beq pc 8) (some (.getfield 57, 11)) none) (cond (Nat.beq pc 11) (some (.if_icmp .ge 71, 82)) none))) (cond (Nat.blt pc 15) (cond (Nat.beq pc 14) (some (.iconst 0, 15)) none) (cond (Nat.blt pc 17) (cond (Nat.beq pc 15) (some (.istore 5, 17)) none) (cond (Nat.beq pc 17) (some (.iload 5, 19)) none))))) (cond (Nat.blt pc 31) (cond (Nat.blt pc 25) (cond (Nat.blt pc 20) (cond (Nat.beq pc 19) (some (.aload_n 0, 20)) none) (cond (Nat.blt pc 23) (cond (Nat.beq pc 20) (some (.getfield 31, 23)) none) (cond (Nat.beq pc 23) (some (.iload 4, 25)) none))) (cond (Nat.blt pc 26) (cond (Nat.beq pc 25) (some (.iaload, 26)) none) (cond (Nat.blt pc 29) (cond (Nat.beq pc 26) (some (.if_icmp .ge 50, 76)) none) (cond (Nat.beq pc 29) (some (.iload 4, 31)) none)))) (cond (Nat.blt pc 35) (cond (Nat.blt pc 32) (cond (Nat.beq pc 31) (some (.iconst 2, 32)) none) (cond (Nat.blt pc 33) (cond (Nat.beq pc 32) (some (.imul, 33)) none) (cond (Nat.beq pc 33) (some (.iload 5, 35)) none))) (cond (Nat.blt pc 36) (cond (Nat.beq pc 35) (some (.iadd, 36)) none) (cond (Nat.blt pc 38) (cond (Nat.beq pc 36) (some (.istore 6, 38)) none) (cond (Nat.beq pc 38) (some (.aload_n 0, 39)) none)))))) (cond (Nat.blt pc 60) (cond (Nat.blt pc 49) (cond (Nat.blt pc 44) (cond (Nat.blt pc 42) (cond (Nat.beq pc 39) (some (.getfield 34, 42)) none) (cond (Nat.beq pc 42) (some (.iload 6, 44)) none)) (cond (Nat.blt pc 45) (cond (Nat.beq pc 44) (some (.iaload, 45)) none) (cond (Nat.blt pc 46) (cond (Nat.beq pc 45) (some (.iload_n 1, 46)) none) (cond (Nat.beq pc 46) (some (.if_icmp .ne 24, 70)) none)))) (cond (Nat.blt pc 55) (cond (Nat.blt pc 50) (cond (Nat.beq pc 49) (some (.aload_n 0, 50)) none) (cond (Nat.blt pc 53) (cond (Nat.beq pc 50) (some (.getfield 37, 53)) none) (cond (Nat.beq pc 53) (some (.iload 6, 55)) none))) (cond (Nat.blt pc 56) (cond (Nat.beq pc 55) (some (.iaload, 56)) none) (cond (Nat.blt pc 57) (cond (Nat.beq pc 56) (some (.iload_n 2, 57)) none) (cond (Nat.beq pc 57) (some (.if_icmp .ne 13, 70)) none))))) (cond (Nat.blt pc 70) (cond (Nat.blt pc 65) (cond (Nat.blt pc 61) (cond (Nat.beq pc 60) (some (.iload_n 3, 61)) none) (cond (Nat.blt pc 63) (cond (Nat.beq pc 61) (some (.iload 4, 63)) none) (cond (Nat.beq pc 63) (some (.iload 5, 65)) none))) (cond (Nat.blt pc 68) (cond (Nat.beq pc 65) (some (.invokestatic 60, 68)) none) (cond (Nat.blt pc 69) (cond (Nat.beq pc 68) (some (.ior, 69)) none) (cond (Nat.beq pc 69) (some (.istore_n 3, 70)) none)))) (cond (Nat.blt pc 79) (cond (Nat.blt pc 73) (cond (Nat.beq pc 70) (some (.iinc 5 1, 73)) none) (cond (Nat.blt pc 76) (cond (Nat.beq pc 73) (some (.goto (-56), 17)) none) (cond (Nat.beq pc 76) (some (.iinc 4 1, 79)) none))) (cond (Nat.blt pc 82) (cond (Nat.beq pc 79) (some (.goto (-74), 5)) none) (cond (Nat.blt pc 83) (cond (Nat.beq pc 82) (some (.iload_n 3, 83)) none) (cond (Nat.beq pc 83) (some (.ireturn, 84)) none))))))) none
-- CaseDesk$Plan.isSatisfied(II[I)Z
def xc_25 : Nat → Option (Instr × Nat) := fun pc => cond (Nat.blt pc 40) (cond (Nat.blt pc 18) (cond (Nat.blt pc 9) (cond (Nat.blt pc 3) (cond (Nat.blt pc 1) (cond (Nat.beq pc 0) (some (.iconst 0, 1)) none) (cond (Nat.beq pc 1) (some (.istore 4, 3)) none)) (cond (Nat.blt pc 5) (cond (Nat.beq pc 3) (some (.iload 4, 5)) none) (cond (Nat.blt pc 6) (cond (Nat.beq pc 5) (some (.aload_n 0, 6)) none) (cond (Nat.beq pc 6) (some (.getfield 31, 9)) none)))) (cond (Nat.blt pc 14) (cond (Nat.blt pc 10) (cond (Nat.beq pc 9) (some (.iload_n 1, 10)) none) (cond (Nat.blt pc 11) (cond (Nat.beq pc 10) (some (.iaload, 11)) none) (cond (Nat.beq pc 11) (some (.if_icmp .ge 22, 33)) none))) (cond (Nat.blt pc 15) (cond (Nat.beq pc 14) (some (.iload_n 2, 15)) none) (cond (Nat.blt pc 16) (cond (Nat.beq pc 15) (some (.iload_n 1, 16)) none) (cond (Nat.beq pc 16) (some (.iload 4, 18)) none))))) (cond (Nat.blt pc 30) (cond (Nat.blt pc 25) (cond (Nat.blt pc 21) (cond (Nat.beq pc 18) (some (.invokestatic 60, 21)) none) (cond (Nat.blt pc 22) (cond (Nat.beq pc 21) (some (.iand, 22)) none) (cond (Nat.beq pc 22) (some (.ifCond .ne 5, 27)) none))) (cond (Nat.blt pc 26) (cond (Nat.beq pc 25) (some (.iconst 0, 26)) none) (cond (Nat.blt pc 27) (cond (Nat.beq pc 26) (some (.ireturn, 27)) none) (cond (Nat.beq pc 27) (some (.iinc 4 1, 30)) none)))) (cond (Nat.blt pc 35) (cond (Nat.blt pc 33) (cond (Nat.beq pc 30) (some (.goto (-27), 3)) none) (cond (Nat.blt pc 34) (cond (Nat.beq pc 33) (some (.aload_n 0, 34)) none) (cond (Nat.beq pc 34) (some (.iload_n 1, 35)) none))) (cond (Nat.blt pc 36) (cond (Nat.beq pc 35) (some (.aload_n 3, 36)) none) (cond (Nat.blt pc 39) (cond (Nat.beq pc 36) (some (.invokevirtual 70, 39)) none) (cond (Nat.beq pc 39) (some (.ireturn, 40)) none)))))) none
-- CaseDesk$Plan.ifPartHolds(I[I)Z
def xc_26 : Nat → Option (Instr × Nat) := fun pc => cond (Nat.blt pc 90) (cond (Nat.blt pc 56) (cond (Nat.blt pc 15) (cond (Nat.blt pc 7) (cond (Nat.blt pc 2) (cond (Nat.blt pc 1) (cond (Nat.beq pc 0) (some (.aload_n 2, 1)) none) (cond (Nat.beq pc 1) (some (.aload_n 0, 2)) none)) (cond (Nat.blt pc 5) (cond (Nat.beq pc 2) (some (.getfield 43, 5)) none) (cond (Nat.blt pc 6) (cond (Nat.beq pc 5) (some (.iload_n 1, 6)) none) (cond (Nat.beq pc 6) (some (.iaload, 7)) none)))) (cond (Nat.blt pc 10) (cond (Nat.blt pc 8) (cond (Nat.beq pc 7) (some (.iaload, 8)) none) (cond (Nat.blt pc 9) (cond (Nat.beq pc 8) (some (.istore_n 3, 9)) none) (cond (Nat.beq pc 9) (some (.aload_n 0, 10)) none))) (cond (Nat.blt pc 13) (cond (Nat.beq pc 10) (some (.getfield 40, 13)) none) (cond (Nat.blt pc 14) (cond (Nat.beq pc 13) (some (.iload_n 1, 14)) none) (cond (Nat.beq pc 14) (some (.iaload, 15)) none))))) (cond (Nat.blt pc 46) (cond (Nat.blt pc 41) (cond (Nat.blt pc 40) (cond (Nat.beq pc 15) (some (.tableswitch 73 0 2 #[25, 41, 57], 40)) none) (cond (Nat.beq pc 40) (some (.iload_n 3, 41)) none)) (cond (Nat.blt pc 42) (cond (Nat.beq pc 41) (some (.aload_n 0, 42)) none) (cond (Nat.blt pc 45) (cond (Nat.beq pc 42) (some (.getfield 46, 45)) none) (cond (Nat.beq pc 45) (some (.iload_n 1, 46)) none)))) (cond (Nat.blt pc 51) (cond (Nat.blt pc 47) (cond (Nat.beq pc 46) (some (.iaload, 47)) none) (cond (Nat.blt pc 50) (cond (Nat.beq pc 47) (some (.if_icmp .ge 7, 54)) none) (cond (Nat.beq pc 50) (some (.iconst 1, 51)) none))) (cond (Nat.blt pc 54) (cond (Nat.beq pc 51) (some (.goto 4, 55)) none) (cond (Nat.blt pc 55) (cond (Nat.beq pc 54) (some (.iconst 0, 55)) none) (cond (Nat.beq pc 55) (some (.ireturn, 56)) none)))))) (cond (Nat.blt pc 73) (cond (Nat.blt pc 63) (cond (Nat.blt pc 58) (cond (Nat.blt pc 57) (cond (Nat.beq pc 56) (some (.iload_n 3, 57)) none) (cond (Nat.beq pc 57) (some (.aload_n 0, 58)) none)) (cond (Nat.blt pc 61) (cond (Nat.beq pc 58) (some (.getfield 46, 61)) none) (cond (Nat.blt pc 62) (cond (Nat.beq pc 61) (some (.iload_n 1, 62)) none) (cond (Nat.beq pc 62) (some (.iaload, 63)) none)))) (cond (Nat.blt pc 70) (cond (Nat.blt pc 66) (cond (Nat.beq pc 63) (some (.if_icmp .ne 7, 70)) none) (cond (Nat.blt pc 67) (cond (Nat.beq pc 66) (some (.iconst 1, 67)) none) (cond (Nat.beq pc 67) (some (.goto 4, 71)) none))) (cond (Nat.blt pc 71) (cond (Nat.beq pc 70) (some (.iconst 0, 71)) none) (cond (Nat.blt pc 72) (cond (Nat.beq pc 71) (some (.ireturn, 72)) none) (cond (Nat.beq pc 72) (some (.iload_n 3, 73)) none))))) (cond (Nat.blt pc 82) (cond (Nat.blt pc 77) (cond (Nat.blt pc 74) (cond (Nat.beq pc 73) (some (.aload_n 0, 74)) none) (cond (Nat.beq pc 74) (some (.getfield 46, 77)) none)) (cond (Nat.blt pc 78) (cond (Nat.beq pc 77) (some (.iload_n 1, 78)) none) (cond (Nat.blt pc 79) (cond (Nat.beq pc 78) (some (.iaload, 79)) none) (cond (Nat.beq pc 79) (some (.if_icmp .le 7, 86)) none)))) (cond (Nat.blt pc 87) (cond (Nat.blt pc 83) (cond (Nat.beq pc 82) (some (.iconst 1, 83)) none) (cond (Nat.blt pc 86) (cond (Nat.beq pc 83) (some (.goto 4, 87)) none) (cond (Nat.beq pc 86) (some (.iconst 0, 87)) none))) (cond (Nat.blt pc 88) (cond (Nat.beq pc 87) (some (.ireturn, 88)) none) (cond (Nat.blt pc 89) (cond (Nat.beq pc 88) (some (.iconst 1, 89)) none) (cond (Nat.beq pc 89) (some (.ireturn, 90)) none))))))) none
-- CaseDesk.<init>()V
def xc_27 : Nat → Option (Instr × Nat) := fun pc => cond (Nat.blt pc 38) (cond (Nat.blt pc 19) (cond (Nat.blt pc 8) (cond (Nat.blt pc 4) (cond (Nat.blt pc 1) (cond (Nat.beq pc 0) (some (.aload_n 0, 1)) none) (cond (Nat.beq pc 1) (some (.invokespecial 1, 4)) none)) (cond (Nat.blt pc 5) (cond (Nat.beq pc 4) (some (.aload_n 0, 5)) none) (cond (Nat.beq pc 5) (some (.new 7, 8)) none))) (cond (Nat.blt pc 12) (cond (Nat.blt pc 9) (cond (Nat.beq pc 8) (some (.dup, 9)) none) (cond (Nat.beq pc 9) (some (.invokespecial 9, 12)) none)) (cond (Nat.blt pc 15) (cond (Nat.beq pc 12) (some (.putfield 10, 15)) none) (cond (Nat.blt pc 16) (cond (Nat.beq pc 15) (some (.aload_n 0, 16)) none) (cond (Nat.beq pc 16) (some (.new 16, 19)) none))))) (cond (Nat.blt pc 27) (cond (Nat.blt pc 23) (cond (Nat.blt pc 20) (cond (Nat.beq pc 19) (some (.dup, 20)) none) (cond (Nat.beq pc 20) (some (.invokespecial 18, 23)) none)) (cond (Nat.blt pc 26) (cond (Nat.beq pc 23) (some (.putfield 19, 26)) none) (cond (Nat.beq pc 26) (some (.aload_n 0, 27)) none))) (cond (Nat.blt pc 31) (cond (Nat.blt pc 30) (cond (Nat.beq pc 27) (some (.new 16, 30)) none) (cond (Nat.beq pc 30) (some (.dup, 31)) none)) (cond (Nat.blt pc 34) (cond (Nat.beq pc 31) (some (.invokespecial 18, 34)) none) (cond (Nat.blt pc 37) (cond (Nat.beq pc 34) (some (.putfield 23, 37)) none) (cond (Nat.beq pc 37) (some (.return_, 38)) none)))))) none
-- CaseDesk.item(III)I
def xc_28 : Nat → Option (Instr × Nat) := fun pc => cond (Nat.blt pc 106) (cond (Nat.blt pc 54) (cond (Nat.blt pc 33) (cond (Nat.blt pc 11) (cond (Nat.blt pc 4) (cond (Nat.blt pc 1) (cond (Nat.beq pc 0) (some (.aload_n 0, 1)) none) (cond (Nat.beq pc 1) (some (.getfield 19, 4)) none)) (cond (Nat.blt pc 7) (cond (Nat.beq pc 4) (some (.invokevirtual 26, 7)) none) (cond (Nat.blt pc 10) (cond (Nat.beq pc 7) (some (.ifCond .ne 15, 22)) none) (cond (Nat.beq pc 10) (some (.aload_n 0, 11)) none)))) (cond (Nat.blt pc 19) (cond (Nat.blt pc 14) (cond (Nat.beq pc 11) (some (.getfield 10, 14)) none) (cond (Nat.blt pc 17) (cond (Nat.beq pc 14) (some (.getfield 30, 17)) none) (cond (Nat.beq pc 17) (some (.bipush 12, 19)) none))) (cond (Nat.blt pc 22) (cond (Nat.beq pc 19) (some (.if_icmp .ne 13, 32)) none) (cond (Nat.blt pc 32) (cond (Nat.beq pc 22) (some (.new 34, 25)) none) (cond (Nat.beq pc 32) (some (.iload_n 3, 33)) none))))) (cond (Nat.blt pc 43) (cond (Nat.blt pc 37) (cond (Nat.blt pc 36) (cond (Nat.beq pc 33) (some (.ifCond .lt 24, 57)) none) (cond (Nat.beq pc 36) (some (.iload_n 3, 37)) none)) (cond (Nat.blt pc 39) (cond (Nat.beq pc 37) (some (.bipush 15, 39)) none) (cond (Nat.blt pc 42) (cond (Nat.beq pc 39) (some (.if_icmp .gt 18, 57)) none) (cond (Nat.beq pc 42) (some (.iload_n 3, 43)) none)))) (cond (Nat.blt pc 49) (cond (Nat.blt pc 45) (cond (Nat.beq pc 43) (some (.bipush 8, 45)) none) (cond (Nat.blt pc 46) (cond (Nat.beq pc 45) (some (.iand, 46)) none) (cond (Nat.beq pc 46) (some (.ifCond .eq 7, 53)) none))) (cond (Nat.blt pc 50) (cond (Nat.beq pc 49) (some (.iload_n 1, 50)) none) (cond (Nat.blt pc 53) (cond (Nat.beq pc 50) (some (.ifCond .ne 7, 57)) none) (cond (Nat.beq pc 53) (some (.iconst 1, 54)) none)))))) (cond (Nat.blt pc 74) (cond (Nat.blt pc 64) (cond (Nat.blt pc 58) (cond (Nat.blt pc 57) (cond (Nat.beq pc 54) (some (.goto 4, 58)) none) (cond (Nat.beq pc 57) (some (.iconst 0, 58)) none)) (cond (Nat.blt pc 60) (cond (Nat.beq pc 58) (some (.istore 4, 60)) none) (cond (Nat.blt pc 61) (cond (Nat.beq pc 60) (some (.iload_n 1, 61)) none) (cond (Nat.beq pc 61) (some (.ifCond .lt 24, 85)) none)))) (cond (Nat.blt pc 69) (cond (Nat.blt pc 65) (cond (Nat.beq pc 64) (some (.iload_n 1, 65)) none) (cond (Nat.blt pc 66) (cond (Nat.beq pc 65) (some (.iconst 3, 66)) none) (cond (Nat.beq pc 66) (some (.if_icmp .gt 19, 85)) none))) (cond (Nat.blt pc 70) (cond (Nat.beq pc 69) (some (.aload_n 0, 70)) none) (cond (Nat.blt pc 73) (cond (Nat.beq pc 70) (some (.getfield 10, 73)) none) (cond (Nat.beq pc 73) (some (.iload_n 2, 74)) none))))) (cond (Nat.blt pc 96) (cond (Nat.blt pc 82) (cond (Nat.blt pc 77) (cond (Nat.beq pc 74) (some (.invokevirtual 41, 77)) none) (cond (Nat.blt pc 80) (cond (Nat.beq pc 77) (some (.ifCond .eq 8, 85)) none) (cond (Nat.beq pc 80) (some (.iload 4, 82)) none))) (cond (Nat.blt pc 85) (cond (Nat.beq pc 82) (some (.ifCond .ne 13, 95)) none) (cond (Nat.blt pc 95) (cond (Nat.beq pc 85) (some (.new 45, 88)) none) (cond (Nat.beq pc 95) (some (.aload_n 0, 96)) none)))) (cond (Nat.blt pc 101) (cond (Nat.blt pc 99) (cond (Nat.beq pc 96) (some (.getfield 10, 99)) none) (cond (Nat.blt pc 100) (cond (Nat.beq pc 99) (some (.iload_n 1, 100)) none) (cond (Nat.beq pc 100) (some (.iload_n 2, 101)) none))) (cond (Nat.blt pc 102) (cond (Nat.beq pc 101) (some (.iload_n 3, 102)) none) (cond (Nat.blt pc 105) (cond (Nat.beq pc 102) (some (.invokevirtual 50, 105)) none) (cond (Nat.beq pc 105) (some (.ireturn, 106)) none))))))) none
-- CaseDesk.sentry(IZ)I
def xc_29 : Nat → Option (Instr × Nat) := fun pc => cond (Nat.blt pc 64) (cond (Nat.blt pc 33) (cond (Nat.blt pc 11) (cond (Nat.blt pc 4) (cond (Nat.blt pc 1) (cond (Nat.beq pc 0) (some (.aload_n 0, 1)) none) (cond (Nat.beq pc 1) (some (.getfield 19, 4)) none)) (cond (Nat.blt pc 7) (cond (Nat.beq pc 4) (some (.invokevirtual 26, 7)) none) (cond (Nat.blt pc 10) (cond (Nat.beq pc 7) (some (.ifCond .ne 15, 22)) none) (cond (Nat.beq pc 10) (some (.aload_n 0, 11)) none)))) (cond (Nat.blt pc 19) (cond (Nat.blt pc 14) (cond (Nat.beq pc 11) (some (.getfield 10, 14)) none) (cond (Nat.blt pc 17) (cond (Nat.beq pc 14) (some (.getfield 54, 17)) none) (cond (Nat.beq pc 17) (some (.bipush 16, 19)) none))) (cond (Nat.blt pc 22) (cond (Nat.beq pc 19) (some (.if_icmp .ne 13, 32)) none) (cond (Nat.blt pc 32) (cond (Nat.beq pc 22) (some (.new 34, 25)) none) (cond (Nat.beq pc 32) (some (.aload_n 0, 33)) none))))) (cond (Nat.blt pc 54) (cond (Nat.blt pc 38) (cond (Nat.blt pc 36) (cond (Nat.beq pc 33) (some (.getfield 10, 36)) none) (cond (Nat.blt pc 37) (cond (Nat.beq pc 36) (some (.iload_n 1, 37)) none) (cond (Nat.beq pc 37) (some (.iload_n 2, 38)) none))) (cond (Nat.blt pc 41) (cond (Nat.beq pc 38) (some (.invokevirtual 59, 41)) none) (cond (Nat.blt pc 44) (cond (Nat.beq pc 41) (some (.ifCond .ne 13, 54)) none) (cond (Nat.beq pc 44) (some (.new 45, 47)) none)))) (cond (Nat.blt pc 59) (cond (Nat.blt pc 55) (cond (Nat.beq pc 54) (some (.aload_n 0, 55)) none) (cond (Nat.blt pc 58) (cond (Nat.beq pc 55) (some (.getfield 10, 58)) none) (cond (Nat.beq pc 58) (some (.iload_n 1, 59)) none))) (cond (Nat.blt pc 60) (cond (Nat.beq pc 59) (some (.iload_n 2, 60)) none) (cond (Nat.blt pc 63) (cond (Nat.beq pc 60) (some (.invokevirtual 65, 63)) none) (cond (Nat.beq pc 63) (some (.ireturn, 64)) none)))))) none
-- CaseDesk.on(III)I
def xc_30 : Nat → Option (Instr × Nat) := fun pc => cond (Nat.blt pc 76) (cond (Nat.blt pc 42) (cond (Nat.blt pc 15) (cond (Nat.blt pc 7) (cond (Nat.blt pc 1) (cond (Nat.beq pc 0) (some (.aload_n 0, 1)) none) (cond (Nat.blt pc 4) (cond (Nat.beq pc 1) (some (.getfield 19, 4)) none) (cond (Nat.beq pc 4) (some (.invokevirtual 26, 7)) none))) (cond (Nat.blt pc 11) (cond (Nat.blt pc 10) (cond (Nat.beq pc 7) (some (.ifCond .ne 14, 21)) none) (cond (Nat.beq pc 10) (some (.aload_n 0, 11)) none)) (cond (Nat.blt pc 14) (cond (Nat.beq pc 11) (some (.getfield 10, 14)) none) (cond (Nat.beq pc 14) (some (.iload_n 1, 15)) none)))) (cond (Nat.blt pc 32) (cond (Nat.blt pc 21) (cond (Nat.blt pc 18) (cond (Nat.beq pc 15) (some (.invokevirtual 69, 18)) none) (cond (Nat.beq pc 18) (some (.ifCond .eq 13, 31)) none)) (cond (Nat.blt pc 31) (cond (Nat.beq pc 21) (some (.new 34, 24)) none) (cond (Nat.beq pc 31) (some (.aload_n 0, 32)) none))) (cond (Nat.blt pc 36) (cond (Nat.blt pc 35) (cond (Nat.beq pc 32) (some (.getfield 10, 35)) none) (cond (Nat.beq pc 35) (some (.iload_n 1, 36)) none)) (cond (Nat.blt pc 39) (cond (Nat.beq pc 36) (some (.invokevirtual 74, 39)) none) (cond (Nat.beq pc 39) (some (.ifCond .eq 16, 55)) none))))) (cond (Nat.blt pc 55) (cond (Nat.blt pc 47) (cond (Nat.blt pc 43) (cond (Nat.beq pc 42) (some (.aload_n 0, 43)) none) (cond (Nat.blt pc 46) (cond (Nat.beq pc 43) (some (.getfield 10, 46)) none) (cond (Nat.beq pc 46) (some (.iload_n 1, 47)) none))) (cond (Nat.blt pc 49) (cond (Nat.blt pc 48) (cond (Nat.beq pc 47) (some (.iload_n 2, 48)) none) (cond (Nat.beq pc 48) (some (.iload_n 3, 49)) none)) (cond (Nat.blt pc 52) (cond (Nat.beq pc 49) (some (.invokevirtual 77, 52)) none) (cond (Nat.beq pc 52) (some (.ifCond .ne 13, 65)) none)))) (cond (Nat.blt pc 70) (cond (Nat.blt pc 66) (cond (Nat.blt pc 65) (cond (Nat.beq pc 55) (some (.new 45, 58)) none) (cond (Nat.beq pc 65) (some (.aload_n 0, 66)) none)) (cond (Nat.blt pc 69) (cond (Nat.beq pc 66) (some (.getfield 10, 69)) none) (cond (Nat.beq pc 69) (some (.iload_n 1, 70)) none))) (cond (Nat.blt pc 72) (cond (Nat.blt pc 71) (cond (Nat.beq pc 70) (some (.iload_n 2, 71)) none) (cond (Nat.beq pc 71) (some (.iload_n 3, 72)) none)) (cond (Nat.blt pc 75) (cond (Nat.beq pc 72) (some (.invokevirtual 83, 75)) none) (cond (Nat.beq pc 75) (some (.ireturn, 76)) none)))))) none
-- CaseDesk.when(IIII)V
def xc_31 : Nat → Option (Instr × Nat) := fun pc => cond (Nat.blt pc 70) (cond (Nat.blt pc 38) (cond (Nat.blt pc 21) (cond (Nat.blt pc 7) (cond (Nat.blt pc 1) (cond (Nat.beq pc 0) (some (.aload_n 0, 1)) none) (cond (Nat.blt pc 4) (cond (Nat.beq pc 1) (some (.getfield 19, 4)) none) (cond (Nat.beq pc 4) (some (.invokevirtual 26, 7)) none))) (cond (Nat.blt pc 10) (cond (Nat.beq pc 7) (some (.ifCond .eq 13, 20)) none) (cond (Nat.blt pc 20) (cond (Nat.beq pc 10) (some (.new 34, 13)) none) (cond (Nat.beq pc 20) (some (.aload_n 0, 21)) none)))) (cond (Nat.blt pc 28) (cond (Nat.blt pc 24) (cond (Nat.beq pc 21) (some (.getfield 10, 24)) none) (cond (Nat.blt pc 25) (cond (Nat.beq pc 24) (some (.iload_n 1, 25)) none) (cond (Nat.beq pc 25) (some (.invokevirtual 74, 28)) none))) (cond (Nat.blt pc 32) (cond (Nat.blt pc 31) (cond (Nat.beq pc 28) (some (.ifCond .eq 19, 47)) none) (cond (Nat.beq pc 31) (some (.iload_n 2, 32)) none)) (cond (Nat.blt pc 35) (cond (Nat.beq pc 32) (some (.invokestatic 88, 35)) none) (cond (Nat.beq pc 35) (some (.ifCond .eq 12, 47)) none))))) (cond (Nat.blt pc 58) (cond (Nat.blt pc 43) (cond (Nat.blt pc 39) (cond (Nat.beq pc 38) (some (.iload_n 3, 39)) none) (cond (Nat.blt pc 42) (cond (Nat.beq pc 39) (some (.ifCond .lt 8, 47)) none) (cond (Nat.beq pc 42) (some (.iload_n 3, 43)) none))) (cond (Nat.blt pc 47) (cond (Nat.blt pc 44) (cond (Nat.beq pc 43) (some (.iconst 2, 44)) none) (cond (Nat.beq pc 44) (some (.if_icmp .le 13, 57)) none)) (cond (Nat.blt pc 57) (cond (Nat.beq pc 47) (some (.new 45, 50)) none) (cond (Nat.beq pc 57) (some (.aload_n 0, 58)) none)))) (cond (Nat.blt pc 63) (cond (Nat.blt pc 61) (cond (Nat.beq pc 58) (some (.getfield 10, 61)) none) (cond (Nat.blt pc 62) (cond (Nat.beq pc 61) (some (.iload_n 1, 62)) none) (cond (Nat.beq pc 62) (some (.iload_n 2, 63)) none))) (cond (Nat.blt pc 66) (cond (Nat.blt pc 64) (cond (Nat.beq pc 63) (some (.iload_n 3, 64)) none) (cond (Nat.beq pc 64) (some (.iload 4, 66)) none)) (cond (Nat.blt pc 69) (cond (Nat.beq pc 66) (some (.invokevirtual 93, 69)) none) (cond (Nat.beq pc 69) (some (.return_, 70)) none)))))) none
-- CaseDesk.begin(I)I
def xc_32 : Nat → Option (Instr × Nat) := fun pc => cond (Nat.blt pc 72) (cond (Nat.blt pc 46) (cond (Nat.blt pc 22) (cond (Nat.blt pc 7) (cond (Nat.blt pc 1) (cond (Nat.beq pc 0) (some (.aload_n 0, 1)) none) (cond (Nat.blt pc 4) (cond (Nat.beq pc 1) (some (.getfield 19, 4)) none) (cond (Nat.beq pc 4) (some (.invokevirtual 26, 7)) none))) (cond (Nat.blt pc 20) (cond (Nat.blt pc 10) (cond (Nat.beq pc 7) (some (.ifCond .eq 13, 20)) none) (cond (Nat.beq pc 10) (some (.new 34, 13)) none)) (cond (Nat.blt pc 21) (cond (Nat.beq pc 20) (some (.iload_n 1, 21)) none) (cond (Nat.beq pc 21) (some (.iconst 2, 22)) none)))) (cond (Nat.blt pc 31) (cond (Nat.blt pc 26) (cond (Nat.blt pc 25) (cond (Nat.beq pc 22) (some (.if_icmp .lt 9, 31)) none) (cond (Nat.beq pc 25) (some (.iload_n 1, 26)) none)) (cond (Nat.blt pc 28) (cond (Nat.beq pc 26) (some (.bipush 60, 28)) none) (cond (Nat.beq pc 28) (some (.if_icmp .le 13, 41)) none))) (cond (Nat.blt pc 42) (cond (Nat.blt pc 41) (cond (Nat.beq pc 31) (some (.new 45, 34)) none) (cond (Nat.beq pc 41) (some (.aload_n 0, 42)) none)) (cond (Nat.blt pc 45) (cond (Nat.beq pc 42) (some (.invokevirtual 99, 45)) none) (cond (Nat.beq pc 45) (some (.aload_n 0, 46)) none))))) (cond (Nat.blt pc 60) (cond (Nat.blt pc 54) (cond (Nat.blt pc 50) (cond (Nat.blt pc 49) (cond (Nat.beq pc 46) (some (.getfield 19, 49)) none) (cond (Nat.beq pc 49) (some (.iload_n 1, 50)) none)) (cond (Nat.blt pc 53) (cond (Nat.beq pc 50) (some (.putfield 102, 53)) none) (cond (Nat.beq pc 53) (some (.aload_n 0, 54)) none))) (cond (Nat.blt pc 56) (cond (Nat.blt pc 55) (cond (Nat.beq pc 54) (some (.iconst 0, 55)) none) (cond (Nat.beq pc 55) (some (.iconst (-1), 56)) none)) (cond (Nat.blt pc 57) (cond (Nat.beq pc 56) (some (.iconst 0, 57)) none) (cond (Nat.beq pc 57) (some (.invokevirtual 105, 60)) none)))) (cond (Nat.blt pc 64) (cond (Nat.blt pc 62) (cond (Nat.blt pc 61) (cond (Nat.beq pc 60) (some (.aload_n 0, 61)) none) (cond (Nat.beq pc 61) (some (.iconst 0, 62)) none)) (cond (Nat.blt pc 63) (cond (Nat.beq pc 62) (some (.iconst 2, 63)) none) (cond (Nat.beq pc 63) (some (.iconst 0, 64)) none))) (cond (Nat.blt pc 68) (cond (Nat.blt pc 67) (cond (Nat.beq pc 64) (some (.invokevirtual 109, 67)) none) (cond (Nat.beq pc 67) (some (.aload_n 0, 68)) none)) (cond (Nat.blt pc 71) (cond (Nat.beq pc 68) (some (.invokevirtual 112, 71)) none) (cond (Nat.beq pc 71) (some (.ireturn, 72)) none)))))) none
-- CaseDesk.move(II)I
def xc_33 : Nat → Option (Instr × Nat) := fun pc => cond (Nat.blt pc 73) (cond (Nat.blt pc 41) (cond (Nat.blt pc 21) (cond (Nat.blt pc 5) (cond (Nat.blt pc 1) (cond (Nat.beq pc 0) (some (.aload_n 0, 1)) none) (cond (Nat.blt pc 4) (cond (Nat.beq pc 1) (some (.getfield 19, 4)) none) (cond (Nat.beq pc 4) (some (.iload_n 1, 5)) none))) (cond (Nat.blt pc 8) (cond (Nat.beq pc 5) (some (.invokevirtual 116, 8)) none) (cond (Nat.blt pc 11) (cond (Nat.beq pc 8) (some (.ifCond .ne 13, 21)) none) (cond (Nat.beq pc 11) (some (.new 119, 14)) none)))) (cond (Nat.blt pc 28) (cond (Nat.blt pc 22) (cond (Nat.beq pc 21) (some (.iload_n 2, 22)) none) (cond (Nat.blt pc 25) (cond (Nat.beq pc 22) (some (.invokestatic 124, 25)) none) (cond (Nat.beq pc 25) (some (.ifCond .ne 13, 38)) none))) (cond (Nat.blt pc 39) (cond (Nat.blt pc 38) (cond (Nat.beq pc 28) (some (.new 45, 31)) none) (cond (Nat.beq pc 38) (some (.aload_n 0, 39)) none)) (cond (Nat.blt pc 40) (cond (Nat.beq pc 39) (some (.iload_n 1, 40)) none) (cond (Nat.beq pc 40) (some (.iload_n 2, 41)) none))))) (cond (Nat.blt pc 62) (cond (Nat.blt pc 57) (cond (Nat.blt pc 44) (cond (Nat.beq pc 41) (some (.invokevirtual 129, 44)) none) (cond (Nat.blt pc 47) (cond (Nat.beq pc 44) (some (.ifCond .ne 13, 57)) none) (cond (Nat.beq pc 47) (some (.new 34, 50)) none))) (cond (Nat.blt pc 58) (cond (Nat.beq pc 57) (some (.aload_n 0, 58)) none) (cond (Nat.blt pc 61) (cond (Nat.beq pc 58) (some (.invokevirtual 99, 61)) none) (cond (Nat.beq pc 61) (some (.aload_n 0, 62)) none)))) (cond (Nat.blt pc 65) (cond (Nat.blt pc 63) (cond (Nat.beq pc 62) (some (.iload_n 1, 63)) none) (cond (Nat.blt pc 64) (cond (Nat.beq pc 63) (some (.iload_n 2, 64)) none) (cond (Nat.beq pc 64) (some (.iconst 0, 65)) none))) (cond (Nat.blt pc 69) (cond (Nat.blt pc 68) (cond (Nat.beq pc 65) (some (.invokevirtual 109, 68)) none) (cond (Nat.beq pc 68) (some (.aload_n 0, 69)) none)) (cond (Nat.blt pc 72) (cond (Nat.beq pc 69) (some (.invokevirtual 112, 72)) none) (cond (Nat.beq pc 72) (some (.ireturn, 73)) none)))))) none
-- CaseDesk.set(II)I
def xc_34 : Nat → Option (Instr × Nat) := fun pc => cond (Nat.blt pc 65) (cond (Nat.blt pc 38) (cond (Nat.blt pc 22) (cond (Nat.blt pc 7) (cond (Nat.blt pc 1) (cond (Nat.beq pc 0) (some (.iload_n 1, 1)) none) (cond (Nat.blt pc 4) (cond (Nat.beq pc 1) (some (.invokestatic 88, 4)) none) (cond (Nat.beq pc 4) (some (.ifCond .ne 13, 17)) none))) (cond (Nat.blt pc 18) (cond (Nat.blt pc 17) (cond (Nat.beq pc 7) (some (.new 45, 10)) none) (cond (Nat.beq pc 17) (some (.aload_n 0, 18)) none)) (cond (Nat.blt pc 21) (cond (Nat.beq pc 18) (some (.invokevirtual 99, 21)) none) (cond (Nat.beq pc 21) (some (.aload_n 0, 22)) none)))) (cond (Nat.blt pc 30) (cond (Nat.blt pc 28) (cond (Nat.blt pc 25) (cond (Nat.beq pc 22) (some (.getfield 19, 25)) none) (cond (Nat.beq pc 25) (some (.getfield 137, 28)) none)) (cond (Nat.blt pc 29) (cond (Nat.beq pc 28) (some (.iload_n 1, 29)) none) (cond (Nat.beq pc 29) (some (.iaload, 30)) none))) (cond (Nat.blt pc 34) (cond (Nat.blt pc 31) (cond (Nat.beq pc 30) (some (.iload_n 2, 31)) none) (cond (Nat.beq pc 31) (some (.if_icmp .eq 29, 60)) none)) (cond (Nat.blt pc 35) (cond (Nat.beq pc 34) (some (.aload_n 0, 35)) none) (cond (Nat.beq pc 35) (some (.getfield 19, 38)) none))))) (cond (Nat.blt pc 51) (cond (Nat.blt pc 44) (cond (Nat.blt pc 42) (cond (Nat.blt pc 41) (cond (Nat.beq pc 38) (some (.getfield 137, 41)) none) (cond (Nat.beq pc 41) (some (.iload_n 1, 42)) none)) (cond (Nat.blt pc 43) (cond (Nat.beq pc 42) (some (.iload_n 2, 43)) none) (cond (Nat.beq pc 43) (some (.iastore, 44)) none))) (cond (Nat.blt pc 46) (cond (Nat.blt pc 45) (cond (Nat.beq pc 44) (some (.aload_n 0, 45)) none) (cond (Nat.beq pc 45) (some (.aload_n 0, 46)) none)) (cond (Nat.blt pc 49) (cond (Nat.beq pc 46) (some (.getfield 10, 49)) none) (cond (Nat.beq pc 49) (some (.bipush 100, 51)) none)))) (cond (Nat.blt pc 57) (cond (Nat.blt pc 53) (cond (Nat.blt pc 52) (cond (Nat.beq pc 51) (some (.iload_n 1, 52)) none) (cond (Nat.beq pc 52) (some (.iadd, 53)) none)) (cond (Nat.blt pc 54) (cond (Nat.beq pc 53) (some (.iconst (-1), 54)) none) (cond (Nat.beq pc 54) (some (.invokevirtual 141, 57)) none))) (cond (Nat.blt pc 61) (cond (Nat.blt pc 60) (cond (Nat.beq pc 57) (some (.invokevirtual 145, 60)) none) (cond (Nat.beq pc 60) (some (.aload_n 0, 61)) none)) (cond (Nat.blt pc 64) (cond (Nat.beq pc 61) (some (.invokevirtual 112, 64)) none) (cond (Nat.beq pc 64) (some (.ireturn, 65)) none)))))) none
-- CaseDesk.value(I)I
def xc_35 : Nat → Option (Instr × Nat) := fun pc => cond (Nat.blt pc 21) (cond (Nat.blt pc 11) (cond (Nat.blt pc 4) (cond (Nat.blt pc 1) (cond (Nat.beq pc 0) (some (.iload_n 1, 1)) none) (cond (Nat.beq pc 1) (some (.invokestatic 88, 4)) none)) (cond (Nat.blt pc 7) (cond (Nat.beq pc 4) (some (.ifCond .eq 15, 19)) none) (cond (Nat.blt pc 8) (cond (Nat.beq pc 7) (some (.aload_n 0, 8)) none) (cond (Nat.beq pc 8) (some (.getfield 19, 11)) none)))) (cond (Nat.blt pc 16) (cond (Nat.blt pc 14) (cond (Nat.beq pc 11) (some (.getfield 137, 14)) none) (cond (Nat.blt pc 15) (cond (Nat.beq pc 14) (some (.iload_n 1, 15)) none) (cond (Nat.beq pc 15) (some (.iaload, 16)) none))) (cond (Nat.blt pc 19) (cond (Nat.beq pc 16) (some (.goto 4, 20)) none) (cond (Nat.blt pc 20) (cond (Nat.beq pc 19) (some (.iconst 0, 20)) none) (cond (Nat.beq pc 20) (some (.ireturn, 21)) none))))) none
-- CaseDesk.instances()I
def xc_36 : Nat → Option (Instr × Nat) := fun pc => cond (Nat.blt pc 8) (cond (Nat.blt pc 4) (cond (Nat.blt pc 1) (cond (Nat.beq pc 0) (some (.aload_n 0, 1)) none) (cond (Nat.beq pc 1) (some (.getfield 19, 4)) none)) (cond (Nat.blt pc 7) (cond (Nat.beq pc 4) (some (.getfield 149, 7)) none) (cond (Nat.beq pc 7) (some (.ireturn, 8)) none))) none
-- CaseDesk.instance(II)I
def xc_37 : Nat → Option (Instr × Nat) := fun pc => cond (Nat.blt pc 86) (cond (Nat.blt pc 58) (cond (Nat.blt pc 14) (cond (Nat.blt pc 8) (cond (Nat.blt pc 4) (cond (Nat.blt pc 1) (cond (Nat.beq pc 0) (some (.aload_n 0, 1)) none) (cond (Nat.beq pc 1) (some (.getfield 19, 4)) none)) (cond (Nat.blt pc 5) (cond (Nat.beq pc 4) (some (.iload_n 1, 5)) none) (cond (Nat.beq pc 5) (some (.invokevirtual 116, 8)) none))) (cond (Nat.blt pc 12) (cond (Nat.blt pc 11) (cond (Nat.beq pc 8) (some (.ifCond .ne 5, 13)) none) (cond (Nat.beq pc 11) (some (.iconst (-1), 12)) none)) (cond (Nat.blt pc 13) (cond (Nat.beq pc 12) (some (.ireturn, 13)) none) (cond (Nat.beq pc 13) (some (.iload_n 2, 14)) none)))) (cond (Nat.blt pc 51) (cond (Nat.blt pc 45) (cond (Nat.blt pc 44) (cond (Nat.beq pc 14) (some (.tableswitch 70 0 3 #[30, 40, 50, 60], 44)) none) (cond (Nat.beq pc 44) (some (.aload_n 0, 45)) none)) (cond (Nat.blt pc 48) (cond (Nat.beq pc 45) (some (.getfield 19, 48)) none) (cond (Nat.beq pc 48) (some (.getfield 152, 51)) none))) (cond (Nat.blt pc 53) (cond (Nat.blt pc 52) (cond (Nat.beq pc 51) (some (.iload_n 1, 52)) none) (cond (Nat.beq pc 52) (some (.iaload, 53)) none)) (cond (Nat.blt pc 54) (cond (Nat.beq pc 53) (some (.ireturn, 54)) none) (cond (Nat.blt pc 55) (cond (Nat.beq pc 54) (some (.aload_n 0, 55)) none) (cond (Nat.beq pc 55) (some (.getfield 19, 58)) none)))))) (cond (Nat.blt pc 73) (cond (Nat.blt pc 64) (cond (Nat.blt pc 62) (cond (Nat.blt pc 61) (cond (Nat.beq pc 58) (some (.getfield 155, 61)) none) (cond (Nat.beq pc 61) (some (.iload_n 1, 62)) none)) (cond (Nat.blt pc 63) (cond (Nat.beq pc 62) (some (.iaload, 63)) none) (cond (Nat.beq pc 63) (some (.ireturn, 64)) none))) (cond (Nat.blt pc 68) (cond (Nat.blt pc 65) (cond (Nat.beq pc 64) (some (.aload_n 0, 65)) none) (cond (Nat.beq pc 65) (some (.getfield 19, 68)) none)) (cond (Nat.blt pc 71) (cond (Nat.beq pc 68) (some (.getfield 158, 71)) none) (cond (Nat.blt pc 72) (cond (Nat.beq pc 71) (some (.iload_n 1, 72)) none) (cond (Nat.beq pc 72) (some (.iaload, 73)) none))))) (cond (Nat.blt pc 81) (cond (Nat.blt pc 75) (cond (Nat.blt pc 74) (cond (Nat.beq pc 73) (some (.ireturn, 74)) none) (cond (Nat.beq pc 74) (some (.aload_n 0, 75)) none)) (cond (Nat.blt pc 78) (cond (Nat.beq pc 75) (some (.getfield 19, 78)) none) (cond (Nat.beq pc 78) (some (.getfield 161, 81)) none))) (cond (Nat.blt pc 83) (cond (Nat.blt pc 82) (cond (Nat.beq pc 81) (some (.iload_n 1, 82)) none) (cond (Nat.beq pc 82) (some (.iaload, 83)) none)) (cond (Nat.blt pc 84) (cond (Nat.beq pc 83) (some (.ireturn, 84)) none) (cond (Nat.blt pc 85) (cond (Nat.beq pc 84) (some (.iconst (-1), 85)) none) (cond (Nat.beq pc 85) (some (.ireturn, 86)) none))))))) none
-- CaseDesk.marked(III)Z
def xc_38 : Nat → Option (Instr × Nat) := fun pc => cond (Nat.blt pc 68) (cond (Nat.blt pc 34) (cond (Nat.blt pc 19) (cond (Nat.blt pc 8) (cond (Nat.blt pc 4) (cond (Nat.blt pc 1) (cond (Nat.beq pc 0) (some (.aload_n 0, 1)) none) (cond (Nat.beq pc 1) (some (.getfield 19, 4)) none)) (cond (Nat.blt pc 5) (cond (Nat.beq pc 4) (some (.iload_n 1, 5)) none) (cond (Nat.beq pc 5) (some (.invokevirtual 116, 8)) none))) (cond (Nat.blt pc 12) (cond (Nat.blt pc 11) (cond (Nat.beq pc 8) (some (.ifCond .eq 23, 31)) none) (cond (Nat.beq pc 11) (some (.aload_n 0, 12)) none)) (cond (Nat.blt pc 15) (cond (Nat.beq pc 12) (some (.getfield 10, 15)) none) (cond (Nat.blt pc 16) (cond (Nat.beq pc 15) (some (.iload_n 2, 16)) none) (cond (Nat.beq pc 16) (some (.invokevirtual 74, 19)) none))))) (cond (Nat.blt pc 27) (cond (Nat.blt pc 23) (cond (Nat.blt pc 22) (cond (Nat.beq pc 19) (some (.ifCond .eq 12, 31)) none) (cond (Nat.beq pc 22) (some (.iload_n 3, 23)) none)) (cond (Nat.blt pc 26) (cond (Nat.beq pc 23) (some (.ifCond .lt 8, 31)) none) (cond (Nat.beq pc 26) (some (.iload_n 3, 27)) none))) (cond (Nat.blt pc 31) (cond (Nat.blt pc 28) (cond (Nat.beq pc 27) (some (.iconst 2, 28)) none) (cond (Nat.beq pc 28) (some (.if_icmp .lt 5, 33)) none)) (cond (Nat.blt pc 32) (cond (Nat.beq pc 31) (some (.iconst 0, 32)) none) (cond (Nat.blt pc 33) (cond (Nat.beq pc 32) (some (.ireturn, 33)) none) (cond (Nat.beq pc 33) (some (.aload_n 0, 34)) none)))))) (cond (Nat.blt pc 53) (cond (Nat.blt pc 44) (cond (Nat.blt pc 38) (cond (Nat.blt pc 37) (cond (Nat.beq pc 34) (some (.getfield 19, 37)) none) (cond (Nat.beq pc 37) (some (.iload_n 1, 38)) none)) (cond (Nat.blt pc 41) (cond (Nat.beq pc 38) (some (.invokevirtual 164, 41)) none) (cond (Nat.beq pc 41) (some (.ifCond .ne 25, 66)) none))) (cond (Nat.blt pc 48) (cond (Nat.blt pc 45) (cond (Nat.beq pc 44) (some (.aload_n 0, 45)) none) (cond (Nat.beq pc 45) (some (.getfield 19, 48)) none)) (cond (Nat.blt pc 51) (cond (Nat.beq pc 48) (some (.getfield 167, 51)) none) (cond (Nat.blt pc 52) (cond (Nat.beq pc 51) (some (.iload_n 1, 52)) none) (cond (Nat.beq pc 52) (some (.iaload, 53)) none))))) (cond (Nat.blt pc 59) (cond (Nat.blt pc 55) (cond (Nat.blt pc 54) (cond (Nat.beq pc 53) (some (.iload_n 2, 54)) none) (cond (Nat.beq pc 54) (some (.iload_n 3, 55)) none)) (cond (Nat.blt pc 58) (cond (Nat.beq pc 55) (some (.invokestatic 170, 58)) none) (cond (Nat.beq pc 58) (some (.iand, 59)) none))) (cond (Nat.blt pc 63) (cond (Nat.blt pc 62) (cond (Nat.beq pc 59) (some (.ifCond .eq 7, 66)) none) (cond (Nat.beq pc 62) (some (.iconst 1, 63)) none)) (cond (Nat.blt pc 66) (cond (Nat.beq pc 63) (some (.goto 4, 67)) none) (cond (Nat.blt pc 67) (cond (Nat.beq pc 66) (some (.iconst 0, 67)) none) (cond (Nat.beq pc 67) (some (.ireturn, 68)) none))))))) none
-- CaseDesk.can(II)Z
def xc_39 : Nat → Option (Instr × Nat) := fun pc => cond (Nat.blt pc 33) (cond (Nat.blt pc 18) (cond (Nat.blt pc 8) (cond (Nat.blt pc 4) (cond (Nat.blt pc 1) (cond (Nat.beq pc 0) (some (.aload_n 0, 1)) none) (cond (Nat.beq pc 1) (some (.getfield 19, 4)) none)) (cond (Nat.blt pc 5) (cond (Nat.beq pc 4) (some (.iload_n 1, 5)) none) (cond (Nat.beq pc 5) (some (.invokevirtual 116, 8)) none))) (cond (Nat.blt pc 12) (cond (Nat.blt pc 11) (cond (Nat.beq pc 8) (some (.ifCond .eq 23, 31)) none) (cond (Nat.beq pc 11) (some (.iload_n 2, 12)) none)) (cond (Nat.blt pc 15) (cond (Nat.beq pc 12) (some (.invokestatic 124, 15)) none) (cond (Nat.beq pc 15) (some (.ifCond .eq 16, 31)) none)))) (cond (Nat.blt pc 24) (cond (Nat.blt pc 20) (cond (Nat.blt pc 19) (cond (Nat.beq pc 18) (some (.aload_n 0, 19)) none) (cond (Nat.beq pc 19) (some (.iload_n 1, 20)) none)) (cond (Nat.blt pc 21) (cond (Nat.beq pc 20) (some (.iload_n 2, 21)) none) (cond (Nat.beq pc 21) (some (.invokevirtual 129, 24)) none))) (cond (Nat.blt pc 28) (cond (Nat.blt pc 27) (cond (Nat.beq pc 24) (some (.ifCond .eq 7, 31)) none) (cond (Nat.beq pc 27) (some (.iconst 1, 28)) none)) (cond (Nat.blt pc 31) (cond (Nat.beq pc 28) (some (.goto 4, 32)) none) (cond (Nat.blt pc 32) (cond (Nat.beq pc 31) (some (.iconst 0, 32)) none) (cond (Nat.beq pc 32) (some (.ireturn, 33)) none)))))) none
-- CaseDesk.moves()I
def xc_40 : Nat → Option (Instr × Nat) := fun pc => cond (Nat.blt pc 8) (cond (Nat.blt pc 4) (cond (Nat.blt pc 1) (cond (Nat.beq pc 0) (some (.aload_n 0, 1)) none) (cond (Nat.beq pc 1) (some (.getfield 19, 4)) none)) (cond (Nat.blt pc 7) (cond (Nat.beq pc 4) (some (.getfield 173, 7)) none) (cond (Nat.beq pc 7) (some (.ireturn, 8)) none))) none
-- CaseDesk.history(II)I
def xc_41 : Nat → Option (Instr × Nat) := fun pc => cond (Nat.blt pc 86) (cond (Nat.blt pc 34) (cond (Nat.blt pc 18) (cond (Nat.blt pc 7) (cond (Nat.blt pc 4) (cond (Nat.blt pc 1) (cond (Nat.beq pc 0) (some (.iload_n 1, 1)) none) (cond (Nat.beq pc 1) (some (.ifCond .lt 20, 21)) none)) (cond (Nat.blt pc 5) (cond (Nat.beq pc 4) (some (.iload_n 1, 5)) none) (cond (Nat.beq pc 5) (some (.bipush 48, 7)) none))) (cond (Nat.blt pc 11) (cond (Nat.blt pc 10) (cond (Nat.beq pc 7) (some (.if_icmp .ge 14, 21)) none) (cond (Nat.beq pc 10) (some (.iload_n 1, 11)) none)) (cond (Nat.blt pc 12) (cond (Nat.beq pc 11) (some (.aload_n 0, 12)) none) (cond (Nat.blt pc 15) (cond (Nat.beq pc 12) (some (.getfield 19, 15)) none) (cond (Nat.beq pc 15) (some (.getfield 173, 18)) none))))) (cond (Nat.blt pc 27) (cond (Nat.blt pc 22) (cond (Nat.blt pc 21) (cond (Nat.beq pc 18) (some (.if_icmp .lt 5, 23)) none) (cond (Nat.beq pc 21) (some (.iconst (-1), 22)) none)) (cond (Nat.blt pc 23) (cond (Nat.beq pc 22) (some (.ireturn, 23)) none) (cond (Nat.blt pc 24) (cond (Nat.beq pc 23) (some (.aload_n 0, 24)) none) (cond (Nat.beq pc 24) (some (.getfield 19, 27)) none)))) (cond (Nat.blt pc 31) (cond (Nat.blt pc 30) (cond (Nat.beq pc 27) (some (.getfield 173, 30)) none) (cond (Nat.beq pc 30) (some (.iconst 1, 31)) none)) (cond (Nat.blt pc 32) (cond (Nat.beq pc 31) (some (.isub, 32)) none) (cond (Nat.blt pc 33) (cond (Nat.beq pc 32) (some (.iload_n 1, 33)) none) (cond (Nat.beq pc 33) (some (.isub, 34)) none)))))) (cond (Nat.blt pc 72) (cond (Nat.blt pc 39) (cond (Nat.blt pc 37) (cond (Nat.blt pc 36) (cond (Nat.beq pc 34) (some (.bipush 48, 36)) none) (cond (Nat.beq pc 36) (some (.irem, 37)) none)) (cond (Nat.blt pc 38) (cond (Nat.beq pc 37) (some (.istore_n 3, 38)) none) (cond (Nat.beq pc 38) (some (.iload_n 2, 39)) none))) (cond (Nat.blt pc 65) (cond (Nat.blt pc 64) (cond (Nat.beq pc 39) (some (.lookupswitch 45 #[(0, 25), (1, 35)], 64)) none) (cond (Nat.beq pc 64) (some (.aload_n 0, 65)) none)) (cond (Nat.blt pc 68) (cond (Nat.beq pc 65) (some (.getfield 19, 68)) none) (cond (Nat.blt pc 71) (cond (Nat.beq pc 68) (some (.getfield 176, 71)) none) (cond (Nat.beq pc 71) (some (.iload_n 3, 72)) none))))) (cond (Nat.blt pc 81) (cond (Nat.blt pc 74) (cond (Nat.blt pc 73) (cond (Nat.beq pc 72) (some (.iaload, 73)) none) (cond (Nat.beq pc 73) (some (.ireturn, 74)) none)) (cond (Nat.blt pc 75) (cond (Nat.beq pc 74) (some (.aload_n 0, 75)) none) (cond (Nat.blt pc 78) (cond (Nat.beq pc 75) (some (.getfield 19, 78)) none) (cond (Nat.beq pc 78) (some (.getfield 179, 81)) none)))) (cond (Nat.blt pc 83) (cond (Nat.blt pc 82) (cond (Nat.beq pc 81) (some (.iload_n 3, 82)) none) (cond (Nat.beq pc 82) (some (.iaload, 83)) none)) (cond (Nat.blt pc 84) (cond (Nat.beq pc 83) (some (.ireturn, 84)) none) (cond (Nat.blt pc 85) (cond (Nat.beq pc 84) (some (.iconst (-1), 85)) none) (cond (Nat.beq pc 85) (some (.ireturn, 86)) none))))))) none
-- CaseDesk.isVariable(I)Z
def xc_42 : Nat → Option (Instr × Nat) := fun pc => cond (Nat.blt pc 15) (cond (Nat.blt pc 6) (cond (Nat.blt pc 4) (cond (Nat.blt pc 1) (cond (Nat.beq pc 0) (some (.iload_n 0, 1)) none) (cond (Nat.beq pc 1) (some (.ifCond .lt 12, 13)) none)) (cond (Nat.blt pc 5) (cond (Nat.beq pc 4) (some (.iload_n 0, 5)) none) (cond (Nat.beq pc 5) (some (.iconst 4, 6)) none))) (cond (Nat.blt pc 10) (cond (Nat.blt pc 9) (cond (Nat.beq pc 6) (some (.if_icmp .ge 7, 13)) none) (cond (Nat.beq pc 9) (some (.iconst 1, 10)) none)) (cond (Nat.blt pc 13) (cond (Nat.beq pc 10) (some (.goto 4, 14)) none) (cond (Nat.blt pc 14) (cond (Nat.beq pc 13) (some (.iconst 0, 14)) none) (cond (Nat.beq pc 14) (some (.ireturn, 15)) none))))) none
-- CaseDesk.isCommandMove(I)Z
def xc_43 : Nat → Option (Instr × Nat) := fun pc => cond (Nat.blt pc 17) (cond (Nat.blt pc 8) (cond (Nat.blt pc 2) (cond (Nat.blt pc 1) (cond (Nat.beq pc 0) (some (.iload_n 0, 1)) none) (cond (Nat.beq pc 1) (some (.iconst 2, 2)) none)) (cond (Nat.blt pc 5) (cond (Nat.beq pc 2) (some (.if_icmp .lt 13, 15)) none) (cond (Nat.blt pc 6) (cond (Nat.beq pc 5) (some (.iload_n 0, 6)) none) (cond (Nat.beq pc 6) (some (.bipush 9, 8)) none)))) (cond (Nat.blt pc 12) (cond (Nat.blt pc 11) (cond (Nat.beq pc 8) (some (.if_icmp .gt 7, 15)) none) (cond (Nat.beq pc 11) (some (.iconst 1, 12)) none)) (cond (Nat.blt pc 15) (cond (Nat.beq pc 12) (some (.goto 4, 16)) none) (cond (Nat.blt pc 16) (cond (Nat.beq pc 15) (some (.iconst 0, 16)) none) (cond (Nat.beq pc 16) (some (.ireturn, 17)) none))))) none
-- CaseDesk.mayBeMoved(II)Z
def xc_44 : Nat → Option (Instr × Nat) := fun pc => cond (Nat.blt pc 23) (cond (Nat.blt pc 10) (cond (Nat.blt pc 5) (cond (Nat.blt pc 1) (cond (Nat.beq pc 0) (some (.aload_n 0, 1)) none) (cond (Nat.blt pc 2) (cond (Nat.beq pc 1) (some (.iload_n 1, 2)) none) (cond (Nat.beq pc 2) (some (.invokevirtual 182, 5)) none))) (cond (Nat.blt pc 8) (cond (Nat.beq pc 5) (some (.ifCond .eq 16, 21)) none) (cond (Nat.blt pc 9) (cond (Nat.beq pc 8) (some (.aload_n 0, 9)) none) (cond (Nat.beq pc 9) (some (.iload_n 1, 10)) none)))) (cond (Nat.blt pc 17) (cond (Nat.blt pc 11) (cond (Nat.beq pc 10) (some (.iload_n 2, 11)) none) (cond (Nat.blt pc 14) (cond (Nat.beq pc 11) (some (.invokevirtual 185, 14)) none) (cond (Nat.beq pc 14) (some (.ifCond .eq 7, 21)) none))) (cond (Nat.blt pc 21) (cond (Nat.blt pc 18) (cond (Nat.beq pc 17) (some (.iconst 1, 18)) none) (cond (Nat.beq pc 18) (some (.goto 4, 22)) none)) (cond (Nat.blt pc 22) (cond (Nat.beq pc 21) (some (.iconst 0, 22)) none) (cond (Nat.beq pc 22) (some (.ireturn, 23)) none))))) none
-- CaseDesk.stateAndKindFit(II)Z
def xc_45 : Nat → Option (Instr × Nat) := fun pc => cond (Nat.blt pc 197) (cond (Nat.blt pc 122) (cond (Nat.blt pc 82) (cond (Nat.blt pc 21) (cond (Nat.blt pc 9) (cond (Nat.blt pc 4) (cond (Nat.blt pc 1) (cond (Nat.beq pc 0) (some (.aload_n 0, 1)) none) (cond (Nat.beq pc 1) (some (.getfield 19, 4)) none)) (cond (Nat.blt pc 7) (cond (Nat.beq pc 4) (some (.getfield 158, 7)) none) (cond (Nat.blt pc 8) (cond (Nat.beq pc 7) (some (.iload_n 1, 8)) none) (cond (Nat.beq pc 8) (some (.iaload, 9)) none)))) (cond (Nat.blt pc 14) (cond (Nat.blt pc 10) (cond (Nat.beq pc 9) (some (.istore_n 3, 10)) none) (cond (Nat.blt pc 11) (cond (Nat.beq pc 10) (some (.aload_n 0, 11)) none) (cond (Nat.beq pc 11) (some (.getfield 10, 14)) none))) (cond (Nat.blt pc 17) (cond (Nat.beq pc 14) (some (.getfield 188, 17)) none) (cond (Nat.blt pc 18) (cond (Nat.beq pc 17) (some (.aload_n 0, 18)) none) (cond (Nat.beq pc 18) (some (.getfield 19, 21)) none))))) (cond (Nat.blt pc 29) (cond (Nat.blt pc 25) (cond (Nat.blt pc 24) (cond (Nat.beq pc 21) (some (.getfield 152, 24)) none) (cond (Nat.beq pc 24) (some (.iload_n 1, 25)) none)) (cond (Nat.blt pc 26) (cond (Nat.beq pc 25) (some (.iaload, 26)) none) (cond (Nat.blt pc 27) (cond (Nat.beq pc 26) (some (.iaload, 27)) none) (cond (Nat.beq pc 27) (some (.istore 4, 29)) none)))) (cond (Nat.blt pc 77) (cond (Nat.blt pc 30) (cond (Nat.beq pc 29) (some (.iload_n 2, 30)) none) (cond (Nat.blt pc 76) (cond (Nat.beq pc 30) (some (.tableswitch 165 2 9 #[46, 57, 73, 97, 108, 119, 136, 148], 76)) none) (cond (Nat.beq pc 76) (some (.iload_n 3, 77)) none))) (cond (Nat.blt pc 78) (cond (Nat.beq pc 77) (some (.iconst 1, 78)) none) (cond (Nat.blt pc 81) (cond (Nat.beq pc 78) (some (.if_icmp .ne 7, 85)) none) (cond (Nat.beq pc 81) (some (.iconst 1, 82)) none)))))) (cond (Nat.blt pc 102) (cond (Nat.blt pc 91) (cond (Nat.blt pc 86) (cond (Nat.blt pc 85) (cond (Nat.beq pc 82) (some (.goto 4, 86)) none) (cond (Nat.beq pc 85) (some (.iconst 0, 86)) none)) (cond (Nat.blt pc 87) (cond (Nat.beq pc 86) (some (.ireturn, 87)) none) (cond (Nat.blt pc 88) (cond (Nat.beq pc 87) (some (.iload_n 3, 88)) none) (cond (Nat.beq pc 88) (some (.ifCond .ne 13, 101)) none)))) (cond (Nat.blt pc 97) (cond (Nat.blt pc 93) (cond (Nat.beq pc 91) (some (.iload 4, 93)) none) (cond (Nat.blt pc 94) (cond (Nat.beq pc 93) (some (.iconst 3, 94)) none) (cond (Nat.beq pc 94) (some (.if_icmp .ne 7, 101)) none))) (cond (Nat.blt pc 98) (cond (Nat.beq pc 97) (some (.iconst 1, 98)) none) (cond (Nat.blt pc 101) (cond (Nat.beq pc 98) (some (.goto 4, 102)) none) (cond (Nat.beq pc 101) (some (.iconst 0, 102)) none))))) (cond (Nat.blt pc 110) (cond (Nat.blt pc 104) (cond (Nat.blt pc 103) (cond (Nat.beq pc 102) (some (.ireturn, 103)) none) (cond (Nat.beq pc 103) (some (.iload_n 3, 104)) none)) (cond (Nat.blt pc 105) (cond (Nat.beq pc 104) (some (.iconst 2, 105)) none) (cond (Nat.blt pc 108) (cond (Nat.beq pc 105) (some (.if_icmp .ne 20, 125)) none) (cond (Nat.beq pc 108) (some (.iload 4, 110)) none)))) (cond (Nat.blt pc 115) (cond (Nat.blt pc 113) (cond (Nat.beq pc 110) (some (.ifCond .ne 11, 121)) none) (cond (Nat.blt pc 114) (cond (Nat.beq pc 113) (some (.aload_n 0, 114)) none) (cond (Nat.beq pc 114) (some (.iload_n 1, 115)) none))) (cond (Nat.blt pc 118) (cond (Nat.beq pc 115) (some (.invokevirtual 191, 118)) none) (cond (Nat.blt pc 121) (cond (Nat.beq pc 118) (some (.ifCond .eq 7, 125)) none) (cond (Nat.beq pc 121) (some (.iconst 1, 122)) none))))))) (cond (Nat.blt pc 157) (cond (Nat.blt pc 139) (cond (Nat.blt pc 129) (cond (Nat.blt pc 126) (cond (Nat.blt pc 125) (cond (Nat.beq pc 122) (some (.goto 4, 126)) none) (cond (Nat.beq pc 125) (some (.iconst 0, 126)) none)) (cond (Nat.blt pc 127) (cond (Nat.beq pc 126) (some (.ireturn, 127)) none) (cond (Nat.blt pc 128) (cond (Nat.beq pc 127) (some (.iload_n 3, 128)) none) (cond (Nat.beq pc 128) (some (.iconst 2, 129)) none)))) (cond (Nat.blt pc 136) (cond (Nat.blt pc 132) (cond (Nat.beq pc 129) (some (.if_icmp .ne 7, 136)) none) (cond (Nat.blt pc 133) (cond (Nat.beq pc 132) (some (.iconst 1, 133)) none) (cond (Nat.beq pc 133) (some (.goto 4, 137)) none))) (cond (Nat.blt pc 137) (cond (Nat.beq pc 136) (some (.iconst 0, 137)) none) (cond (Nat.blt pc 138) (cond (Nat.beq pc 137) (some (.ireturn, 138)) none) (cond (Nat.beq pc 138) (some (.iload_n 3, 139)) none))))) (cond (Nat.blt pc 148) (cond (Nat.blt pc 143) (cond (Nat.blt pc 140) (cond (Nat.beq pc 139) (some (.iconst 3, 140)) none) (cond (Nat.beq pc 140) (some (.if_icmp .ne 7, 147)) none)) (cond (Nat.blt pc 144) (cond (Nat.beq pc 143) (some (.iconst 1, 144)) none) (cond (Nat.blt pc 147) (cond (Nat.beq pc 144) (some (.goto 4, 148)) none) (cond (Nat.beq pc 147) (some (.iconst 0, 148)) none)))) (cond (Nat.blt pc 151) (cond (Nat.blt pc 149) (cond (Nat.beq pc 148) (some (.ireturn, 149)) none) (cond (Nat.blt pc 150) (cond (Nat.beq pc 149) (some (.iload_n 3, 150)) none) (cond (Nat.beq pc 150) (some (.iconst 2, 151)) none))) (cond (Nat.blt pc 154) (cond (Nat.beq pc 151) (some (.if_icmp .ne 13, 164)) none) (cond (Nat.blt pc 156) (cond (Nat.beq pc 154) (some (.iload 4, 156)) none) (cond (Nat.beq pc 156) (some (.iconst 1, 157)) none)))))) (cond (Nat.blt pc 177) (cond (Nat.blt pc 166) (cond (Nat.blt pc 161) (cond (Nat.blt pc 160) (cond (Nat.beq pc 157) (some (.if_icmp .ne 7, 164)) none) (cond (Nat.beq pc 160) (some (.iconst 1, 161)) none)) (cond (Nat.blt pc 164) (cond (Nat.beq pc 161) (some (.goto 4, 165)) none) (cond (Nat.blt pc 165) (cond (Nat.beq pc 164) (some (.iconst 0, 165)) none) (cond (Nat.beq pc 165) (some (.ireturn, 166)) none)))) (cond (Nat.blt pc 172) (cond (Nat.blt pc 167) (cond (Nat.beq pc 166) (some (.iload_n 3, 167)) none) (cond (Nat.blt pc 169) (cond (Nat.beq pc 167) (some (.bipush 6, 169)) none) (cond (Nat.beq pc 169) (some (.if_icmp .ne 7, 176)) none))) (cond (Nat.blt pc 173) (cond (Nat.beq pc 172) (some (.iconst 1, 173)) none) (cond (Nat.blt pc 176) (cond (Nat.beq pc 173) (some (.goto 4, 177)) none) (cond (Nat.beq pc 176) (some (.iconst 0, 177)) none))))) (cond (Nat.blt pc 189) (cond (Nat.blt pc 182) (cond (Nat.blt pc 178) (cond (Nat.beq pc 177) (some (.ireturn, 178)) none) (cond (Nat.blt pc 179) (cond (Nat.beq pc 178) (some (.aload_n 0, 179)) none) (cond (Nat.beq pc 179) (some (.getfield 19, 182)) none))) (cond (Nat.blt pc 183) (cond (Nat.beq pc 182) (some (.iload_n 1, 183)) none) (cond (Nat.blt pc 186) (cond (Nat.beq pc 183) (some (.invokevirtual 164, 186)) none) (cond (Nat.beq pc 186) (some (.ifCond .ne 7, 193)) none)))) (cond (Nat.blt pc 194) (cond (Nat.blt pc 190) (cond (Nat.beq pc 189) (some (.iconst 1, 190)) none) (cond (Nat.blt pc 193) (cond (Nat.beq pc 190) (some (.goto 4, 194)) none) (cond (Nat.beq pc 193) (some (.iconst 0, 194)) none))) (cond (Nat.blt pc 195) (cond (Nat.beq pc 194) (some (.ireturn, 195)) none) (cond (Nat.blt pc 196) (cond (Nat.beq pc 195) (some (.iconst 0, 196)) none) (cond (Nat.beq pc 196) (some (.ireturn, 197)) none)))))))) none
-- CaseDesk.parentLets(I)Z
def xc_46 : Nat → Option (Instr × Nat) := fun pc => cond (Nat.blt pc 34) (cond (Nat.blt pc 16) (cond (Nat.blt pc 9) (cond (Nat.blt pc 4) (cond (Nat.blt pc 1) (cond (Nat.beq pc 0) (some (.aload_n 0, 1)) none) (cond (Nat.beq pc 1) (some (.getfield 19, 4)) none)) (cond (Nat.blt pc 7) (cond (Nat.beq pc 4) (some (.getfield 155, 7)) none) (cond (Nat.blt pc 8) (cond (Nat.beq pc 7) (some (.iload_n 1, 8)) none) (cond (Nat.beq pc 8) (some (.iaload, 9)) none)))) (cond (Nat.blt pc 11) (cond (Nat.blt pc 10) (cond (Nat.beq pc 9) (some (.istore_n 2, 10)) none) (cond (Nat.beq pc 10) (some (.iload_n 2, 11)) none)) (cond (Nat.blt pc 12) (cond (Nat.beq pc 11) (some (.iconst (-1), 12)) none) (cond (Nat.blt pc 15) (cond (Nat.beq pc 12) (some (.if_icmp .eq 16, 28)) none) (cond (Nat.beq pc 15) (some (.aload_n 0, 16)) none))))) (cond (Nat.blt pc 25) (cond (Nat.blt pc 22) (cond (Nat.blt pc 19) (cond (Nat.beq pc 16) (some (.getfield 19, 19)) none) (cond (Nat.beq pc 19) (some (.getfield 158, 22)) none)) (cond (Nat.blt pc 23) (cond (Nat.beq pc 22) (some (.iload_n 2, 23)) none) (cond (Nat.blt pc 24) (cond (Nat.beq pc 23) (some (.iaload, 24)) none) (cond (Nat.beq pc 24) (some (.iconst 2, 25)) none)))) (cond (Nat.blt pc 29) (cond (Nat.blt pc 28) (cond (Nat.beq pc 25) (some (.if_icmp .ne 7, 32)) none) (cond (Nat.beq pc 28) (some (.iconst 1, 29)) none)) (cond (Nat.blt pc 32) (cond (Nat.beq pc 29) (some (.goto 4, 33)) none) (cond (Nat.blt pc 33) (cond (Nat.beq pc 32) (some (.iconst 0, 33)) none) (cond (Nat.beq pc 33) (some (.ireturn, 34)) none)))))) none
-- CaseDesk.openCommand()V
def xc_47 : Nat → Option (Instr × Nat) := fun pc => cond (Nat.blt pc 22) (cond (Nat.blt pc 12) (cond (Nat.blt pc 5) (cond (Nat.blt pc 1) (cond (Nat.beq pc 0) (some (.aload_n 0, 1)) none) (cond (Nat.blt pc 4) (cond (Nat.beq pc 1) (some (.getfield 23, 4)) none) (cond (Nat.beq pc 4) (some (.aload_n 0, 5)) none))) (cond (Nat.blt pc 8) (cond (Nat.beq pc 5) (some (.getfield 19, 8)) none) (cond (Nat.blt pc 11) (cond (Nat.beq pc 8) (some (.invokevirtual 194, 11)) none) (cond (Nat.beq pc 11) (some (.aload_n 0, 12)) none)))) (cond (Nat.blt pc 17) (cond (Nat.blt pc 13) (cond (Nat.beq pc 12) (some (.iconst 0, 13)) none) (cond (Nat.blt pc 16) (cond (Nat.beq pc 13) (some (.putfield 198, 16)) none) (cond (Nat.beq pc 16) (some (.aload_n 0, 17)) none))) (cond (Nat.blt pc 18) (cond (Nat.beq pc 17) (some (.iconst 0, 18)) none) (cond (Nat.blt pc 21) (cond (Nat.beq pc 18) (some (.putfield 201, 21)) none) (cond (Nat.beq pc 21) (some (.return_, 22)) none))))) none
-- CaseDesk.workOff()I
def xc_48 : Nat → Option (Instr × Nat) := fun pc => cond (Nat.blt pc 106) (cond (Nat.blt pc 46) (cond (Nat.blt pc 22) (cond (Nat.blt pc 9) (cond (Nat.blt pc 3) (cond (Nat.blt pc 1) (cond (Nat.beq pc 0) (some (.iconst 0, 1)) none) (cond (Nat.blt pc 2) (cond (Nat.beq pc 1) (some (.istore_n 1, 2)) none) (cond (Nat.beq pc 2) (some (.iload_n 1, 3)) none))) (cond (Nat.blt pc 5) (cond (Nat.beq pc 3) (some (.bipush 60, 5)) none) (cond (Nat.blt pc 8) (cond (Nat.beq pc 5) (some (.if_icmp .gt 80, 85)) none) (cond (Nat.beq pc 8) (some (.aload_n 0, 9)) none)))) (cond (Nat.blt pc 16) (cond (Nat.blt pc 12) (cond (Nat.beq pc 9) (some (.getfield 201, 12)) none) (cond (Nat.blt pc 15) (cond (Nat.beq pc 12) (some (.ifCond .ne 73, 85)) none) (cond (Nat.beq pc 15) (some (.aload_n 0, 16)) none))) (cond (Nat.blt pc 20) (cond (Nat.blt pc 19) (cond (Nat.beq pc 16) (some (.invokevirtual 205, 19)) none) (cond (Nat.beq pc 19) (some (.istore_n 2, 20)) none)) (cond (Nat.blt pc 21) (cond (Nat.beq pc 20) (some (.iload_n 2, 21)) none) (cond (Nat.beq pc 21) (some (.iconst (-1), 22)) none))))) (cond (Nat.blt pc 33) (cond (Nat.blt pc 27) (cond (Nat.blt pc 25) (cond (Nat.beq pc 22) (some (.if_icmp .eq 14, 36)) none) (cond (Nat.blt pc 26) (cond (Nat.beq pc 25) (some (.aload_n 0, 26)) none) (cond (Nat.beq pc 26) (some (.iload_n 2, 27)) none))) (cond (Nat.blt pc 29) (cond (Nat.beq pc 27) (some (.bipush 9, 29)) none) (cond (Nat.blt pc 30) (cond (Nat.beq pc 29) (some (.iconst 0, 30)) none) (cond (Nat.beq pc 30) (some (.invokevirtual 109, 33)) none)))) (cond (Nat.blt pc 40) (cond (Nat.blt pc 36) (cond (Nat.beq pc 33) (some (.goto 46, 79)) none) (cond (Nat.blt pc 37) (cond (Nat.beq pc 36) (some (.aload_n 0, 37)) none) (cond (Nat.beq pc 37) (some (.invokevirtual 208, 40)) none))) (cond (Nat.blt pc 42) (cond (Nat.blt pc 41) (cond (Nat.beq pc 40) (some (.istore_n 3, 41)) none) (cond (Nat.beq pc 41) (some (.iload_n 3, 42)) none)) (cond (Nat.blt pc 43) (cond (Nat.beq pc 42) (some (.iconst (-1), 43)) none) (cond (Nat.beq pc 43) (some (.if_icmp .eq 11, 54)) none)))))) (cond (Nat.blt pc 71) (cond (Nat.blt pc 58) (cond (Nat.blt pc 51) (cond (Nat.blt pc 47) (cond (Nat.beq pc 46) (some (.aload_n 0, 47)) none) (cond (Nat.blt pc 48) (cond (Nat.beq pc 47) (some (.iload_n 3, 48)) none) (cond (Nat.beq pc 48) (some (.invokevirtual 211, 51)) none))) (cond (Nat.blt pc 54) (cond (Nat.beq pc 51) (some (.goto 28, 79)) none) (cond (Nat.blt pc 55) (cond (Nat.beq pc 54) (some (.aload_n 0, 55)) none) (cond (Nat.beq pc 55) (some (.invokevirtual 214, 58)) none)))) (cond (Nat.blt pc 63) (cond (Nat.blt pc 60) (cond (Nat.beq pc 58) (some (.istore 4, 60)) none) (cond (Nat.blt pc 62) (cond (Nat.beq pc 60) (some (.iload 4, 62)) none) (cond (Nat.beq pc 62) (some (.iconst (-1), 63)) none))) (cond (Nat.blt pc 67) (cond (Nat.blt pc 66) (cond (Nat.beq pc 63) (some (.if_icmp .ne 8, 71)) none) (cond (Nat.beq pc 66) (some (.aload_n 0, 67)) none)) (cond (Nat.blt pc 70) (cond (Nat.beq pc 67) (some (.getfield 198, 70)) none) (cond (Nat.beq pc 70) (some (.ireturn, 71)) none))))) (cond (Nat.blt pc 82) (cond (Nat.blt pc 75) (cond (Nat.blt pc 72) (cond (Nat.beq pc 71) (some (.aload_n 0, 72)) none) (cond (Nat.blt pc 74) (cond (Nat.beq pc 72) (some (.iload 4, 74)) none) (cond (Nat.beq pc 74) (some (.iconst 4, 75)) none))) (cond (Nat.blt pc 76) (cond (Nat.beq pc 75) (some (.iconst 0, 76)) none) (cond (Nat.blt pc 79) (cond (Nat.beq pc 76) (some (.invokevirtual 109, 79)) none) (cond (Nat.beq pc 79) (some (.iinc 1 1, 82)) none)))) (cond (Nat.blt pc 89) (cond (Nat.blt pc 85) (cond (Nat.beq pc 82) (some (.goto (-80), 2)) none) (cond (Nat.blt pc 86) (cond (Nat.beq pc 85) (some (.aload_n 0, 86)) none) (cond (Nat.beq pc 86) (some (.getfield 19, 89)) none))) (cond (Nat.blt pc 93) (cond (Nat.blt pc 90) (cond (Nat.beq pc 89) (some (.aload_n 0, 90)) none) (cond (Nat.beq pc 90) (some (.getfield 23, 93)) none)) (cond (Nat.blt pc 96) (cond (Nat.beq pc 93) (some (.invokevirtual 194, 96)) none) (cond (Nat.beq pc 96) (some (.new 217, 99)) none))))))) none
-- CaseDesk.lowestToExit()I
def xc_49 : Nat → Option (Instr × Nat) := fun pc => cond (Nat.blt pc 51) (cond (Nat.blt pc 25) (cond (Nat.blt pc 10) (cond (Nat.blt pc 3) (cond (Nat.blt pc 1) (cond (Nat.beq pc 0) (some (.iconst 0, 1)) none) (cond (Nat.blt pc 2) (cond (Nat.beq pc 1) (some (.istore_n 1, 2)) none) (cond (Nat.beq pc 2) (some (.iload_n 1, 3)) none))) (cond (Nat.blt pc 4) (cond (Nat.beq pc 3) (some (.aload_n 0, 4)) none) (cond (Nat.blt pc 7) (cond (Nat.beq pc 4) (some (.getfield 19, 7)) none) (cond (Nat.beq pc 7) (some (.getfield 149, 10)) none)))) (cond (Nat.blt pc 17) (cond (Nat.blt pc 13) (cond (Nat.beq pc 10) (some (.if_icmp .ge 39, 49)) none) (cond (Nat.blt pc 14) (cond (Nat.beq pc 13) (some (.aload_n 0, 14)) none) (cond (Nat.beq pc 14) (some (.getfield 19, 17)) none))) (cond (Nat.blt pc 21) (cond (Nat.blt pc 18) (cond (Nat.beq pc 17) (some (.iload_n 1, 18)) none) (cond (Nat.beq pc 18) (some (.invokevirtual 164, 21)) none)) (cond (Nat.blt pc 24) (cond (Nat.beq pc 21) (some (.ifCond .ne 22, 43)) none) (cond (Nat.beq pc 24) (some (.aload_n 0, 25)) none))))) (cond (Nat.blt pc 38) (cond (Nat.blt pc 32) (cond (Nat.blt pc 26) (cond (Nat.beq pc 25) (some (.iload_n 1, 26)) none) (cond (Nat.blt pc 29) (cond (Nat.beq pc 26) (some (.invokevirtual 182, 29)) none) (cond (Nat.beq pc 29) (some (.ifCond .eq 14, 43)) none))) (cond (Nat.blt pc 34) (cond (Nat.blt pc 33) (cond (Nat.beq pc 32) (some (.aload_n 0, 33)) none) (cond (Nat.beq pc 33) (some (.iload_n 1, 34)) none)) (cond (Nat.blt pc 35) (cond (Nat.beq pc 34) (some (.iconst 1, 35)) none) (cond (Nat.beq pc 35) (some (.invokevirtual 222, 38)) none)))) (cond (Nat.blt pc 43) (cond (Nat.blt pc 41) (cond (Nat.beq pc 38) (some (.ifCond .eq 5, 43)) none) (cond (Nat.blt pc 42) (cond (Nat.beq pc 41) (some (.iload_n 1, 42)) none) (cond (Nat.beq pc 42) (some (.ireturn, 43)) none))) (cond (Nat.blt pc 49) (cond (Nat.blt pc 46) (cond (Nat.beq pc 43) (some (.iinc 1 1, 46)) none) (cond (Nat.beq pc 46) (some (.goto (-44), 2)) none)) (cond (Nat.blt pc 50) (cond (Nat.beq pc 49) (some (.iconst (-1), 50)) none) (cond (Nat.beq pc 50) (some (.ireturn, 51)) none)))))) none
-- CaseDesk.lowestToEnter()I
def xc_50 : Nat → Option (Instr × Nat) := fun pc => cond (Nat.blt pc 86) (cond (Nat.blt pc 43) (cond (Nat.blt pc 21) (cond (Nat.blt pc 7) (cond (Nat.blt pc 2) (cond (Nat.blt pc 1) (cond (Nat.beq pc 0) (some (.iconst 0, 1)) none) (cond (Nat.beq pc 1) (some (.istore_n 1, 2)) none)) (cond (Nat.blt pc 3) (cond (Nat.beq pc 2) (some (.iload_n 1, 3)) none) (cond (Nat.blt pc 4) (cond (Nat.beq pc 3) (some (.aload_n 0, 4)) none) (cond (Nat.beq pc 4) (some (.getfield 19, 7)) none)))) (cond (Nat.blt pc 14) (cond (Nat.blt pc 10) (cond (Nat.beq pc 7) (some (.getfield 149, 10)) none) (cond (Nat.blt pc 13) (cond (Nat.beq pc 10) (some (.if_icmp .ge 74, 84)) none) (cond (Nat.beq pc 13) (some (.aload_n 0, 14)) none))) (cond (Nat.blt pc 17) (cond (Nat.beq pc 14) (some (.getfield 19, 17)) none) (cond (Nat.blt pc 20) (cond (Nat.beq pc 17) (some (.getfield 152, 20)) none) (cond (Nat.beq pc 20) (some (.iload_n 1, 21)) none))))) (cond (Nat.blt pc 31) (cond (Nat.blt pc 24) (cond (Nat.blt pc 22) (cond (Nat.beq pc 21) (some (.iaload, 22)) none) (cond (Nat.blt pc 23) (cond (Nat.beq pc 22) (some (.istore_n 2, 23)) none) (cond (Nat.beq pc 23) (some (.aload_n 0, 24)) none))) (cond (Nat.blt pc 27) (cond (Nat.beq pc 24) (some (.getfield 19, 27)) none) (cond (Nat.blt pc 30) (cond (Nat.beq pc 27) (some (.getfield 158, 30)) none) (cond (Nat.beq pc 30) (some (.iload_n 1, 31)) none)))) (cond (Nat.blt pc 36) (cond (Nat.blt pc 32) (cond (Nat.beq pc 31) (some (.iaload, 32)) none) (cond (Nat.blt pc 35) (cond (Nat.beq pc 32) (some (.ifCond .ne 46, 78)) none) (cond (Nat.beq pc 35) (some (.aload_n 0, 36)) none))) (cond (Nat.blt pc 39) (cond (Nat.beq pc 36) (some (.getfield 10, 39)) none) (cond (Nat.blt pc 42) (cond (Nat.beq pc 39) (some (.getfield 188, 42)) none) (cond (Nat.beq pc 42) (some (.iload_n 2, 43)) none)))))) (cond (Nat.blt pc 64) (cond (Nat.blt pc 50) (cond (Nat.blt pc 45) (cond (Nat.blt pc 44) (cond (Nat.beq pc 43) (some (.iaload, 44)) none) (cond (Nat.beq pc 44) (some (.iconst 3, 45)) none)) (cond (Nat.blt pc 48) (cond (Nat.beq pc 45) (some (.if_icmp .eq 33, 78)) none) (cond (Nat.blt pc 49) (cond (Nat.beq pc 48) (some (.aload_n 0, 49)) none) (cond (Nat.beq pc 49) (some (.iload_n 1, 50)) none)))) (cond (Nat.blt pc 57) (cond (Nat.blt pc 53) (cond (Nat.beq pc 50) (some (.invokevirtual 182, 53)) none) (cond (Nat.blt pc 56) (cond (Nat.beq pc 53) (some (.ifCond .eq 25, 78)) none) (cond (Nat.beq pc 56) (some (.aload_n 0, 57)) none))) (cond (Nat.blt pc 60) (cond (Nat.beq pc 57) (some (.getfield 10, 60)) none) (cond (Nat.blt pc 61) (cond (Nat.beq pc 60) (some (.iload_n 2, 61)) none) (cond (Nat.beq pc 61) (some (.invokevirtual 225, 64)) none))))) (cond (Nat.blt pc 76) (cond (Nat.blt pc 69) (cond (Nat.blt pc 67) (cond (Nat.beq pc 64) (some (.ifCond .eq 12, 76)) none) (cond (Nat.blt pc 68) (cond (Nat.beq pc 67) (some (.aload_n 0, 68)) none) (cond (Nat.beq pc 68) (some (.iload_n 1, 69)) none))) (cond (Nat.blt pc 70) (cond (Nat.beq pc 69) (some (.iconst 0, 70)) none) (cond (Nat.blt pc 73) (cond (Nat.beq pc 70) (some (.invokevirtual 222, 73)) none) (cond (Nat.beq pc 73) (some (.ifCond .eq 5, 78)) none)))) (cond (Nat.blt pc 81) (cond (Nat.blt pc 77) (cond (Nat.beq pc 76) (some (.iload_n 1, 77)) none) (cond (Nat.blt pc 78) (cond (Nat.beq pc 77) (some (.ireturn, 78)) none) (cond (Nat.beq pc 78) (some (.iinc 1 1, 81)) none))) (cond (Nat.blt pc 84) (cond (Nat.beq pc 81) (some (.goto (-79), 2)) none) (cond (Nat.blt pc 85) (cond (Nat.beq pc 84) (some (.iconst (-1), 85)) none) (cond (Nat.beq pc 85) (some (.ireturn, 86)) none))))))) none
-- CaseDesk.lowestToComplete()I
def xc_51 : Nat → Option (Instr × Nat) := fun pc => cond (Nat.blt pc 72) (cond (Nat.blt pc 37) (cond (Nat.blt pc 17) (cond (Nat.blt pc 4) (cond (Nat.blt pc 2) (cond (Nat.blt pc 1) (cond (Nat.beq pc 0) (some (.iconst 0, 1)) none) (cond (Nat.beq pc 1) (some (.istore_n 1, 2)) none)) (cond (Nat.blt pc 3) (cond (Nat.beq pc 2) (some (.iload_n 1, 3)) none) (cond (Nat.beq pc 3) (some (.aload_n 0, 4)) none))) (cond (Nat.blt pc 10) (cond (Nat.blt pc 7) (cond (Nat.beq pc 4) (some (.getfield 19, 7)) none) (cond (Nat.beq pc 7) (some (.getfield 149, 10)) none)) (cond (Nat.blt pc 13) (cond (Nat.beq pc 10) (some (.if_icmp .ge 60, 70)) none) (cond (Nat.blt pc 14) (cond (Nat.beq pc 13) (some (.aload_n 0, 14)) none) (cond (Nat.beq pc 14) (some (.getfield 19, 17)) none))))) (cond (Nat.blt pc 26) (cond (Nat.blt pc 21) (cond (Nat.blt pc 20) (cond (Nat.beq pc 17) (some (.getfield 158, 20)) none) (cond (Nat.beq pc 20) (some (.iload_n 1, 21)) none)) (cond (Nat.blt pc 22) (cond (Nat.beq pc 21) (some (.iaload, 22)) none) (cond (Nat.blt pc 23) (cond (Nat.beq pc 22) (some (.iconst 2, 23)) none) (cond (Nat.beq pc 23) (some (.if_icmp .ne 41, 64)) none)))) (cond (Nat.blt pc 30) (cond (Nat.blt pc 27) (cond (Nat.beq pc 26) (some (.aload_n 0, 27)) none) (cond (Nat.beq pc 27) (some (.getfield 10, 30)) none)) (cond (Nat.blt pc 33) (cond (Nat.beq pc 30) (some (.getfield 188, 33)) none) (cond (Nat.blt pc 34) (cond (Nat.beq pc 33) (some (.aload_n 0, 34)) none) (cond (Nat.beq pc 34) (some (.getfield 19, 37)) none)))))) (cond (Nat.blt pc 54) (cond (Nat.blt pc 43) (cond (Nat.blt pc 41) (cond (Nat.blt pc 40) (cond (Nat.beq pc 37) (some (.getfield 152, 40)) none) (cond (Nat.beq pc 40) (some (.iload_n 1, 41)) none)) (cond (Nat.blt pc 42) (cond (Nat.beq pc 41) (some (.iaload, 42)) none) (cond (Nat.beq pc 42) (some (.iaload, 43)) none))) (cond (Nat.blt pc 47) (cond (Nat.blt pc 46) (cond (Nat.beq pc 43) (some (.ifCond .ne 21, 64)) none) (cond (Nat.beq pc 46) (some (.aload_n 0, 47)) none)) (cond (Nat.blt pc 48) (cond (Nat.beq pc 47) (some (.iload_n 1, 48)) none) (cond (Nat.blt pc 51) (cond (Nat.beq pc 48) (some (.invokevirtual 182, 51)) none) (cond (Nat.beq pc 51) (some (.ifCond .eq 13, 64)) none))))) (cond (Nat.blt pc 63) (cond (Nat.blt pc 56) (cond (Nat.blt pc 55) (cond (Nat.beq pc 54) (some (.aload_n 0, 55)) none) (cond (Nat.beq pc 55) (some (.iload_n 1, 56)) none)) (cond (Nat.blt pc 59) (cond (Nat.beq pc 56) (some (.invokevirtual 228, 59)) none) (cond (Nat.blt pc 62) (cond (Nat.beq pc 59) (some (.ifCond .eq 5, 64)) none) (cond (Nat.beq pc 62) (some (.iload_n 1, 63)) none)))) (cond (Nat.blt pc 67) (cond (Nat.blt pc 64) (cond (Nat.beq pc 63) (some (.ireturn, 64)) none) (cond (Nat.beq pc 64) (some (.iinc 1 1, 67)) none)) (cond (Nat.blt pc 70) (cond (Nat.beq pc 67) (some (.goto (-65), 2)) none) (cond (Nat.blt pc 71) (cond (Nat.beq pc 70) (some (.iconst (-1), 71)) none) (cond (Nat.beq pc 71) (some (.ireturn, 72)) none))))))) none
-- CaseDesk.letIn(I)V
def xc_52 : Nat → Option (Instr × Nat) := fun pc => cond (Nat.blt pc 95) (cond (Nat.blt pc 48) (cond (Nat.blt pc 23) (cond (Nat.blt pc 10) (cond (Nat.blt pc 7) (cond (Nat.blt pc 1) (cond (Nat.beq pc 0) (some (.aload_n 0, 1)) none) (cond (Nat.blt pc 4) (cond (Nat.beq pc 1) (some (.getfield 19, 4)) none) (cond (Nat.beq pc 4) (some (.getfield 152, 7)) none))) (cond (Nat.blt pc 8) (cond (Nat.beq pc 7) (some (.iload_n 1, 8)) none) (cond (Nat.blt pc 9) (cond (Nat.beq pc 8) (some (.iaload, 9)) none) (cond (Nat.beq pc 9) (some (.istore_n 2, 10)) none)))) (cond (Nat.blt pc 15) (cond (Nat.blt pc 11) (cond (Nat.beq pc 10) (some (.aload_n 0, 11)) none) (cond (Nat.blt pc 14) (cond (Nat.beq pc 11) (some (.getfield 10, 14)) none) (cond (Nat.beq pc 14) (some (.iload_n 2, 15)) none))) (cond (Nat.blt pc 19) (cond (Nat.blt pc 16) (cond (Nat.beq pc 15) (some (.iconst 1, 16)) none) (cond (Nat.beq pc 16) (some (.invokevirtual 231, 19)) none)) (cond (Nat.blt pc 22) (cond (Nat.beq pc 19) (some (.ifCond .eq 29, 48)) none) (cond (Nat.beq pc 22) (some (.aload_n 0, 23)) none))))) (cond (Nat.blt pc 35) (cond (Nat.blt pc 30) (cond (Nat.blt pc 26) (cond (Nat.beq pc 23) (some (.getfield 10, 26)) none) (cond (Nat.blt pc 27) (cond (Nat.beq pc 26) (some (.iload_n 2, 27)) none) (cond (Nat.beq pc 27) (some (.invokevirtual 225, 30)) none))) (cond (Nat.blt pc 33) (cond (Nat.beq pc 30) (some (.ifCond .eq 18, 48)) none) (cond (Nat.blt pc 34) (cond (Nat.beq pc 33) (some (.aload_n 0, 34)) none) (cond (Nat.beq pc 34) (some (.iload_n 2, 35)) none)))) (cond (Nat.blt pc 42) (cond (Nat.blt pc 36) (cond (Nat.beq pc 35) (some (.aload_n 0, 36)) none) (cond (Nat.blt pc 39) (cond (Nat.beq pc 36) (some (.getfield 19, 39)) none) (cond (Nat.beq pc 39) (some (.getfield 155, 42)) none))) (cond (Nat.blt pc 44) (cond (Nat.blt pc 43) (cond (Nat.beq pc 42) (some (.iload_n 1, 43)) none) (cond (Nat.beq pc 43) (some (.iaload, 44)) none)) (cond (Nat.blt pc 45) (cond (Nat.beq pc 44) (some (.iconst 0, 45)) none) (cond (Nat.beq pc 45) (some (.invokevirtual 105, 48)) none)))))) (cond (Nat.blt pc 71) (cond (Nat.blt pc 58) (cond (Nat.blt pc 55) (cond (Nat.blt pc 49) (cond (Nat.beq pc 48) (some (.aload_n 0, 49)) none) (cond (Nat.blt pc 52) (cond (Nat.beq pc 49) (some (.getfield 10, 52)) none) (cond (Nat.beq pc 52) (some (.getfield 188, 55)) none))) (cond (Nat.blt pc 56) (cond (Nat.beq pc 55) (some (.iload_n 2, 56)) none) (cond (Nat.blt pc 57) (cond (Nat.beq pc 56) (some (.iaload, 57)) none) (cond (Nat.beq pc 57) (some (.iconst 2, 58)) none)))) (cond (Nat.blt pc 63) (cond (Nat.blt pc 61) (cond (Nat.beq pc 58) (some (.if_icmp .ne 13, 71)) none) (cond (Nat.blt pc 62) (cond (Nat.beq pc 61) (some (.aload_n 0, 62)) none) (cond (Nat.beq pc 62) (some (.iload_n 1, 63)) none))) (cond (Nat.blt pc 65) (cond (Nat.blt pc 64) (cond (Nat.beq pc 63) (some (.iconst 3, 64)) none) (cond (Nat.beq pc 64) (some (.iconst 0, 65)) none)) (cond (Nat.blt pc 68) (cond (Nat.beq pc 65) (some (.invokevirtual 109, 68)) none) (cond (Nat.beq pc 68) (some (.goto 26, 94)) none))))) (cond (Nat.blt pc 82) (cond (Nat.blt pc 74) (cond (Nat.blt pc 72) (cond (Nat.beq pc 71) (some (.aload_n 0, 72)) none) (cond (Nat.blt pc 73) (cond (Nat.beq pc 72) (some (.iload_n 1, 73)) none) (cond (Nat.beq pc 73) (some (.aload_n 0, 74)) none))) (cond (Nat.blt pc 78) (cond (Nat.blt pc 77) (cond (Nat.beq pc 74) (some (.getfield 10, 77)) none) (cond (Nat.beq pc 77) (some (.iload_n 2, 78)) none)) (cond (Nat.blt pc 79) (cond (Nat.beq pc 78) (some (.iconst 4, 79)) none) (cond (Nat.beq pc 79) (some (.invokevirtual 231, 82)) none)))) (cond (Nat.blt pc 89) (cond (Nat.blt pc 85) (cond (Nat.beq pc 82) (some (.ifCond .eq 7, 89)) none) (cond (Nat.blt pc 86) (cond (Nat.beq pc 85) (some (.iconst 1, 86)) none) (cond (Nat.beq pc 86) (some (.goto 4, 90)) none))) (cond (Nat.blt pc 91) (cond (Nat.blt pc 90) (cond (Nat.beq pc 89) (some (.iconst 2, 90)) none) (cond (Nat.beq pc 90) (some (.iconst 0, 91)) none)) (cond (Nat.blt pc 94) (cond (Nat.beq pc 91) (some (.invokevirtual 109, 94)) none) (cond (Nat.beq pc 94) (some (.return_, 95)) none))))))) none
-- CaseDesk.hasSatisfied(IZ)Z
def xc_53 : Nat → Option (Instr × Nat) := fun pc => cond (Nat.blt pc 84) (cond (Nat.blt pc 42) (cond (Nat.blt pc 21) (cond (Nat.blt pc 7) (cond (Nat.blt pc 2) (cond (Nat.blt pc 1) (cond (Nat.beq pc 0) (some (.iconst 0, 1)) none) (cond (Nat.beq pc 1) (some (.istore_n 3, 2)) none)) (cond (Nat.blt pc 3) (cond (Nat.beq pc 2) (some (.iload_n 3, 3)) none) (cond (Nat.blt pc 4) (cond (Nat.beq pc 3) (some (.aload_n 0, 4)) none) (cond (Nat.beq pc 4) (some (.getfield 10, 7)) none)))) (cond (Nat.blt pc 14) (cond (Nat.blt pc 10) (cond (Nat.beq pc 7) (some (.getfield 54, 10)) none) (cond (Nat.blt pc 13) (cond (Nat.beq pc 10) (some (.if_icmp .ge 72, 82)) none) (cond (Nat.beq pc 13) (some (.aload_n 0, 14)) none))) (cond (Nat.blt pc 17) (cond (Nat.beq pc 14) (some (.getfield 10, 17)) none) (cond (Nat.blt pc 20) (cond (Nat.beq pc 17) (some (.getfield 234, 20)) none) (cond (Nat.beq pc 20) (some (.iload_n 3, 21)) none))))) (cond (Nat.blt pc 30) (cond (Nat.blt pc 23) (cond (Nat.blt pc 22) (cond (Nat.beq pc 21) (some (.iaload, 22)) none) (cond (Nat.beq pc 22) (some (.aload_n 0, 23)) none)) (cond (Nat.blt pc 26) (cond (Nat.beq pc 23) (some (.getfield 19, 26)) none) (cond (Nat.blt pc 29) (cond (Nat.beq pc 26) (some (.getfield 152, 29)) none) (cond (Nat.beq pc 29) (some (.iload_n 1, 30)) none)))) (cond (Nat.blt pc 35) (cond (Nat.blt pc 31) (cond (Nat.beq pc 30) (some (.iaload, 31)) none) (cond (Nat.blt pc 34) (cond (Nat.beq pc 31) (some (.if_icmp .ne 45, 76)) none) (cond (Nat.beq pc 34) (some (.aload_n 0, 35)) none))) (cond (Nat.blt pc 38) (cond (Nat.beq pc 35) (some (.getfield 10, 38)) none) (cond (Nat.blt pc 41) (cond (Nat.beq pc 38) (some (.getfield 237, 41)) none) (cond (Nat.beq pc 41) (some (.iload_n 3, 42)) none)))))) (cond (Nat.blt pc 61) (cond (Nat.blt pc 51) (cond (Nat.blt pc 44) (cond (Nat.blt pc 43) (cond (Nat.beq pc 42) (some (.baload, 43)) none) (cond (Nat.beq pc 43) (some (.iload_n 2, 44)) none)) (cond (Nat.blt pc 47) (cond (Nat.beq pc 44) (some (.if_icmp .ne 32, 76)) none) (cond (Nat.blt pc 48) (cond (Nat.beq pc 47) (some (.aload_n 0, 48)) none) (cond (Nat.beq pc 48) (some (.getfield 10, 51)) none)))) (cond (Nat.blt pc 56) (cond (Nat.blt pc 52) (cond (Nat.beq pc 51) (some (.iload_n 3, 52)) none) (cond (Nat.blt pc 53) (cond (Nat.beq pc 52) (some (.aload_n 0, 53)) none) (cond (Nat.beq pc 53) (some (.getfield 19, 56)) none))) (cond (Nat.blt pc 59) (cond (Nat.beq pc 56) (some (.getfield 167, 59)) none) (cond (Nat.blt pc 60) (cond (Nat.beq pc 59) (some (.iload_n 1, 60)) none) (cond (Nat.beq pc 60) (some (.iaload, 61)) none))))) (cond (Nat.blt pc 74) (cond (Nat.blt pc 65) (cond (Nat.blt pc 62) (cond (Nat.beq pc 61) (some (.aload_n 0, 62)) none) (cond (Nat.beq pc 62) (some (.getfield 19, 65)) none)) (cond (Nat.blt pc 68) (cond (Nat.beq pc 65) (some (.getfield 137, 68)) none) (cond (Nat.blt pc 71) (cond (Nat.beq pc 68) (some (.invokevirtual 241, 71)) none) (cond (Nat.beq pc 71) (some (.ifCond .eq 5, 76)) none)))) (cond (Nat.blt pc 79) (cond (Nat.blt pc 75) (cond (Nat.beq pc 74) (some (.iconst 1, 75)) none) (cond (Nat.blt pc 76) (cond (Nat.beq pc 75) (some (.ireturn, 76)) none) (cond (Nat.beq pc 76) (some (.iinc 3 1, 79)) none))) (cond (Nat.blt pc 82) (cond (Nat.beq pc 79) (some (.goto (-77), 2)) none) (cond (Nat.blt pc 83) (cond (Nat.beq pc 82) (some (.iconst 0, 83)) none) (cond (Nat.beq pc 83) (some (.ireturn, 84)) none))))))) none
-- CaseDesk.isSettled(I)Z
def xc_54 : Nat → Option (Instr × Nat) := fun pc => cond (Nat.blt pc 78) (cond (Nat.blt pc 38) (cond (Nat.blt pc 20) (cond (Nat.blt pc 7) (cond (Nat.blt pc 2) (cond (Nat.blt pc 1) (cond (Nat.beq pc 0) (some (.iconst 0, 1)) none) (cond (Nat.beq pc 1) (some (.istore_n 2, 2)) none)) (cond (Nat.blt pc 3) (cond (Nat.beq pc 2) (some (.iload_n 2, 3)) none) (cond (Nat.blt pc 4) (cond (Nat.beq pc 3) (some (.aload_n 0, 4)) none) (cond (Nat.beq pc 4) (some (.getfield 19, 7)) none)))) (cond (Nat.blt pc 13) (cond (Nat.blt pc 10) (cond (Nat.beq pc 7) (some (.getfield 149, 10)) none) (cond (Nat.beq pc 10) (some (.if_icmp .ge 66, 76)) none)) (cond (Nat.blt pc 14) (cond (Nat.beq pc 13) (some (.aload_n 0, 14)) none) (cond (Nat.blt pc 17) (cond (Nat.beq pc 14) (some (.getfield 19, 17)) none) (cond (Nat.beq pc 17) (some (.getfield 155, 20)) none))))) (cond (Nat.blt pc 27) (cond (Nat.blt pc 22) (cond (Nat.blt pc 21) (cond (Nat.beq pc 20) (some (.iload_n 2, 21)) none) (cond (Nat.beq pc 21) (some (.iaload, 22)) none)) (cond (Nat.blt pc 23) (cond (Nat.beq pc 22) (some (.iload_n 1, 23)) none) (cond (Nat.blt pc 26) (cond (Nat.beq pc 23) (some (.if_icmp .ne 47, 70)) none) (cond (Nat.beq pc 26) (some (.aload_n 0, 27)) none)))) (cond (Nat.blt pc 31) (cond (Nat.blt pc 30) (cond (Nat.beq pc 27) (some (.getfield 19, 30)) none) (cond (Nat.beq pc 30) (some (.iload_n 2, 31)) none)) (cond (Nat.blt pc 34) (cond (Nat.beq pc 31) (some (.invokevirtual 164, 34)) none) (cond (Nat.blt pc 37) (cond (Nat.beq pc 34) (some (.ifCond .ne 36, 70)) none) (cond (Nat.beq pc 37) (some (.aload_n 0, 38)) none)))))) (cond (Nat.blt pc 60) (cond (Nat.blt pc 49) (cond (Nat.blt pc 42) (cond (Nat.blt pc 41) (cond (Nat.beq pc 38) (some (.getfield 19, 41)) none) (cond (Nat.beq pc 41) (some (.iload_n 2, 42)) none)) (cond (Nat.blt pc 45) (cond (Nat.beq pc 42) (some (.invokevirtual 245, 45)) none) (cond (Nat.blt pc 48) (cond (Nat.beq pc 45) (some (.ifCond .eq 23, 68)) none) (cond (Nat.beq pc 48) (some (.aload_n 0, 49)) none)))) (cond (Nat.blt pc 53) (cond (Nat.blt pc 52) (cond (Nat.beq pc 49) (some (.getfield 10, 52)) none) (cond (Nat.beq pc 52) (some (.aload_n 0, 53)) none)) (cond (Nat.blt pc 56) (cond (Nat.beq pc 53) (some (.getfield 19, 56)) none) (cond (Nat.blt pc 59) (cond (Nat.beq pc 56) (some (.getfield 152, 59)) none) (cond (Nat.beq pc 59) (some (.iload_n 2, 60)) none))))) (cond (Nat.blt pc 69) (cond (Nat.blt pc 62) (cond (Nat.blt pc 61) (cond (Nat.beq pc 60) (some (.iaload, 61)) none) (cond (Nat.beq pc 61) (some (.iconst 2, 62)) none)) (cond (Nat.blt pc 65) (cond (Nat.beq pc 62) (some (.invokevirtual 231, 65)) none) (cond (Nat.blt pc 68) (cond (Nat.beq pc 65) (some (.ifCond .eq 5, 70)) none) (cond (Nat.beq pc 68) (some (.iconst 0, 69)) none)))) (cond (Nat.blt pc 73) (cond (Nat.blt pc 70) (cond (Nat.beq pc 69) (some (.ireturn, 70)) none) (cond (Nat.beq pc 70) (some (.iinc 2 1, 73)) none)) (cond (Nat.blt pc 76) (cond (Nat.beq pc 73) (some (.goto (-71), 2)) none) (cond (Nat.blt pc 77) (cond (Nat.beq pc 76) (some (.iconst 1, 77)) none) (cond (Nat.beq pc 77) (some (.ireturn, 78)) none))))))) none
-- CaseDesk.isDone(I)Z
def xc_55 : Nat → Option (Instr × Nat) := fun pc => cond (Nat.blt pc 43) (cond (Nat.blt pc 21) (cond (Nat.blt pc 9) (cond (Nat.blt pc 2) (cond (Nat.blt pc 1) (cond (Nat.beq pc 0) (some (.aload_n 0, 1)) none) (cond (Nat.beq pc 1) (some (.iload_n 1, 2)) none)) (cond (Nat.blt pc 5) (cond (Nat.beq pc 2) (some (.invokevirtual 191, 5)) none) (cond (Nat.blt pc 8) (cond (Nat.beq pc 5) (some (.ifCond .eq 36, 41)) none) (cond (Nat.beq pc 8) (some (.aload_n 0, 9)) none)))) (cond (Nat.blt pc 16) (cond (Nat.blt pc 12) (cond (Nat.beq pc 9) (some (.getfield 10, 12)) none) (cond (Nat.blt pc 13) (cond (Nat.beq pc 12) (some (.aload_n 0, 13)) none) (cond (Nat.beq pc 13) (some (.getfield 19, 16)) none))) (cond (Nat.blt pc 19) (cond (Nat.beq pc 16) (some (.getfield 152, 19)) none) (cond (Nat.blt pc 20) (cond (Nat.beq pc 19) (some (.iload_n 1, 20)) none) (cond (Nat.beq pc 20) (some (.iaload, 21)) none))))) (cond (Nat.blt pc 31) (cond (Nat.blt pc 26) (cond (Nat.blt pc 23) (cond (Nat.beq pc 21) (some (.bipush 8, 23)) none) (cond (Nat.beq pc 23) (some (.invokevirtual 231, 26)) none)) (cond (Nat.blt pc 29) (cond (Nat.beq pc 26) (some (.ifCond .ne 11, 37)) none) (cond (Nat.blt pc 30) (cond (Nat.beq pc 29) (some (.aload_n 0, 30)) none) (cond (Nat.beq pc 30) (some (.iload_n 1, 31)) none)))) (cond (Nat.blt pc 38) (cond (Nat.blt pc 34) (cond (Nat.beq pc 31) (some (.invokevirtual 248, 34)) none) (cond (Nat.blt pc 37) (cond (Nat.beq pc 34) (some (.ifCond .ne 7, 41)) none) (cond (Nat.beq pc 37) (some (.iconst 1, 38)) none))) (cond (Nat.blt pc 41) (cond (Nat.beq pc 38) (some (.goto 4, 42)) none) (cond (Nat.blt pc 42) (cond (Nat.beq pc 41) (some (.iconst 0, 42)) none) (cond (Nat.beq pc 42) (some (.ireturn, 43)) none)))))) none
-- CaseDesk.hasWaitingChild(I)Z
def xc_56 : Nat → Option (Instr × Nat) := fun pc => cond (Nat.blt pc 47) (cond (Nat.blt pc 22) (cond (Nat.blt pc 10) (cond (Nat.blt pc 3) (cond (Nat.blt pc 1) (cond (Nat.beq pc 0) (some (.iconst 0, 1)) none) (cond (Nat.blt pc 2) (cond (Nat.beq pc 1) (some (.istore_n 2, 2)) none) (cond (Nat.beq pc 2) (some (.iload_n 2, 3)) none))) (cond (Nat.blt pc 4) (cond (Nat.beq pc 3) (some (.aload_n 0, 4)) none) (cond (Nat.blt pc 7) (cond (Nat.beq pc 4) (some (.getfield 19, 7)) none) (cond (Nat.beq pc 7) (some (.getfield 149, 10)) none)))) (cond (Nat.blt pc 17) (cond (Nat.blt pc 13) (cond (Nat.beq pc 10) (some (.if_icmp .ge 35, 45)) none) (cond (Nat.blt pc 14) (cond (Nat.beq pc 13) (some (.aload_n 0, 14)) none) (cond (Nat.beq pc 14) (some (.getfield 19, 17)) none))) (cond (Nat.blt pc 20) (cond (Nat.beq pc 17) (some (.getfield 155, 20)) none) (cond (Nat.blt pc 21) (cond (Nat.beq pc 20) (some (.iload_n 2, 21)) none) (cond (Nat.beq pc 21) (some (.iaload, 22)) none))))) (cond (Nat.blt pc 34) (cond (Nat.blt pc 27) (cond (Nat.blt pc 23) (cond (Nat.beq pc 22) (some (.iload_n 1, 23)) none) (cond (Nat.blt pc 26) (cond (Nat.beq pc 23) (some (.if_icmp .ne 16, 39)) none) (cond (Nat.beq pc 26) (some (.aload_n 0, 27)) none))) (cond (Nat.blt pc 30) (cond (Nat.beq pc 27) (some (.getfield 19, 30)) none) (cond (Nat.blt pc 31) (cond (Nat.beq pc 30) (some (.iload_n 2, 31)) none) (cond (Nat.beq pc 31) (some (.invokevirtual 245, 34)) none)))) (cond (Nat.blt pc 39) (cond (Nat.blt pc 37) (cond (Nat.beq pc 34) (some (.ifCond .eq 5, 39)) none) (cond (Nat.blt pc 38) (cond (Nat.beq pc 37) (some (.iconst 1, 38)) none) (cond (Nat.beq pc 38) (some (.ireturn, 39)) none))) (cond (Nat.blt pc 45) (cond (Nat.blt pc 42) (cond (Nat.beq pc 39) (some (.iinc 2 1, 42)) none) (cond (Nat.beq pc 42) (some (.goto (-40), 2)) none)) (cond (Nat.blt pc 46) (cond (Nat.beq pc 45) (some (.iconst 0, 46)) none) (cond (Nat.beq pc 46) (some (.ireturn, 47)) none)))))) none
-- CaseDesk.create(III)V
def xc_57 : Nat → Option (Instr × Nat) := fun pc => cond (Nat.blt pc 41) (cond (Nat.blt pc 24) (cond (Nat.blt pc 11) (cond (Nat.blt pc 4) (cond (Nat.blt pc 1) (cond (Nat.beq pc 0) (some (.aload_n 0, 1)) none) (cond (Nat.beq pc 1) (some (.getfield 201, 4)) none)) (cond (Nat.blt pc 7) (cond (Nat.beq pc 4) (some (.ifCond .ne 15, 19)) none) (cond (Nat.blt pc 8) (cond (Nat.beq pc 7) (some (.aload_n 0, 8)) none) (cond (Nat.beq pc 8) (some (.getfield 19, 11)) none)))) (cond (Nat.blt pc 19) (cond (Nat.blt pc 14) (cond (Nat.beq pc 11) (some (.getfield 149, 14)) none) (cond (Nat.blt pc 16) (cond (Nat.beq pc 14) (some (.bipush 40, 16)) none) (cond (Nat.beq pc 16) (some (.if_icmp .ne 9, 25)) none))) (cond (Nat.blt pc 20) (cond (Nat.beq pc 19) (some (.aload_n 0, 20)) none) (cond (Nat.blt pc 21) (cond (Nat.beq pc 20) (some (.iconst 1, 21)) none) (cond (Nat.beq pc 21) (some (.putfield 201, 24)) none))))) (cond (Nat.blt pc 31) (cond (Nat.blt pc 26) (cond (Nat.blt pc 25) (cond (Nat.beq pc 24) (some (.return_, 25)) none) (cond (Nat.beq pc 25) (some (.aload_n 0, 26)) none)) (cond (Nat.blt pc 27) (cond (Nat.beq pc 26) (some (.aload_n 0, 27)) none) (cond (Nat.blt pc 30) (cond (Nat.beq pc 27) (some (.getfield 19, 30)) none) (cond (Nat.beq pc 30) (some (.iload_n 1, 31)) none)))) (cond (Nat.blt pc 36) (cond (Nat.blt pc 32) (cond (Nat.beq pc 31) (some (.iload_n 2, 32)) none) (cond (Nat.blt pc 35) (cond (Nat.beq pc 32) (some (.invokevirtual 251, 35)) none) (cond (Nat.beq pc 35) (some (.iconst 0, 36)) none))) (cond (Nat.blt pc 37) (cond (Nat.beq pc 36) (some (.iload_n 3, 37)) none) (cond (Nat.blt pc 40) (cond (Nat.beq pc 37) (some (.invokevirtual 109, 40)) none) (cond (Nat.beq pc 40) (some (.return_, 41)) none)))))) none
-- CaseDesk.make(III)V
def xc_58 : Nat → Option (Instr × Nat) := fun pc => cond (Nat.blt pc 122) (cond (Nat.blt pc 65) (cond (Nat.blt pc 34) (cond (Nat.blt pc 18) (cond (Nat.blt pc 8) (cond (Nat.blt pc 4) (cond (Nat.blt pc 1) (cond (Nat.beq pc 0) (some (.aload_n 0, 1)) none) (cond (Nat.beq pc 1) (some (.getfield 201, 4)) none)) (cond (Nat.blt pc 7) (cond (Nat.beq pc 4) (some (.ifCond .ne 23, 27)) none) (cond (Nat.beq pc 7) (some (.aload_n 0, 8)) none))) (cond (Nat.blt pc 12) (cond (Nat.blt pc 11) (cond (Nat.beq pc 8) (some (.getfield 198, 11)) none) (cond (Nat.beq pc 11) (some (.aload_n 0, 12)) none)) (cond (Nat.blt pc 15) (cond (Nat.beq pc 12) (some (.getfield 19, 15)) none) (cond (Nat.beq pc 15) (some (.getfield 102, 18)) none)))) (cond (Nat.blt pc 27) (cond (Nat.blt pc 22) (cond (Nat.blt pc 21) (cond (Nat.beq pc 18) (some (.if_icmp .eq 9, 27)) none) (cond (Nat.beq pc 21) (some (.iload_n 3, 22)) none)) (cond (Nat.blt pc 24) (cond (Nat.beq pc 22) (some (.bipush 12, 24)) none) (cond (Nat.beq pc 24) (some (.if_icmp .le 9, 33)) none))) (cond (Nat.blt pc 29) (cond (Nat.blt pc 28) (cond (Nat.beq pc 27) (some (.aload_n 0, 28)) none) (cond (Nat.beq pc 28) (some (.iconst 1, 29)) none)) (cond (Nat.blt pc 32) (cond (Nat.beq pc 29) (some (.putfield 201, 32)) none) (cond (Nat.blt pc 33) (cond (Nat.beq pc 32) (some (.return_, 33)) none) (cond (Nat.beq pc 33) (some (.aload_n 0, 34)) none)))))) (cond (Nat.blt pc 48) (cond (Nat.blt pc 40) (cond (Nat.blt pc 38) (cond (Nat.blt pc 35) (cond (Nat.beq pc 34) (some (.dup, 35)) none) (cond (Nat.beq pc 35) (some (.getfield 198, 38)) none)) (cond (Nat.blt pc 39) (cond (Nat.beq pc 38) (some (.iconst 1, 39)) none) (cond (Nat.beq pc 39) (some (.iadd, 40)) none))) (cond (Nat.blt pc 44) (cond (Nat.blt pc 43) (cond (Nat.beq pc 40) (some (.putfield 198, 43)) none) (cond (Nat.beq pc 43) (some (.aload_n 0, 44)) none)) (cond (Nat.blt pc 47) (cond (Nat.beq pc 44) (some (.getfield 19, 47)) none) (cond (Nat.beq pc 47) (some (.iload_n 1, 48)) none)))) (cond (Nat.blt pc 54) (cond (Nat.blt pc 52) (cond (Nat.blt pc 49) (cond (Nat.beq pc 48) (some (.iload_n 2, 49)) none) (cond (Nat.beq pc 49) (some (.invokevirtual 254, 52)) none)) (cond (Nat.blt pc 53) (cond (Nat.beq pc 52) (some (.aload_n 0, 53)) none) (cond (Nat.beq pc 53) (some (.iload_n 1, 54)) none))) (cond (Nat.blt pc 58) (cond (Nat.blt pc 55) (cond (Nat.beq pc 54) (some (.aload_n 0, 55)) none) (cond (Nat.beq pc 55) (some (.getfield 10, 58)) none)) (cond (Nat.blt pc 59) (cond (Nat.beq pc 58) (some (.aload_n 0, 59)) none) (cond (Nat.blt pc 62) (cond (Nat.beq pc 59) (some (.getfield 19, 62)) none) (cond (Nat.beq pc 62) (some (.getfield 152, 65)) none))))))) (cond (Nat.blt pc 96) (cond (Nat.blt pc 81) (cond (Nat.blt pc 71) (cond (Nat.blt pc 67) (cond (Nat.blt pc 66) (cond (Nat.beq pc 65) (some (.iload_n 1, 66)) none) (cond (Nat.beq pc 66) (some (.iaload, 67)) none)) (cond (Nat.blt pc 68) (cond (Nat.beq pc 67) (some (.iload_n 2, 68)) none) (cond (Nat.beq pc 68) (some (.invokevirtual 141, 71)) none))) (cond (Nat.blt pc 75) (cond (Nat.blt pc 74) (cond (Nat.beq pc 71) (some (.invokevirtual 258, 74)) none) (cond (Nat.beq pc 74) (some (.aload_n 0, 75)) none)) (cond (Nat.blt pc 78) (cond (Nat.beq pc 75) (some (.getfield 10, 78)) none) (cond (Nat.beq pc 78) (some (.getfield 188, 81)) none)))) (cond (Nat.blt pc 89) (cond (Nat.blt pc 85) (cond (Nat.blt pc 82) (cond (Nat.beq pc 81) (some (.aload_n 0, 82)) none) (cond (Nat.beq pc 82) (some (.getfield 19, 85)) none)) (cond (Nat.blt pc 88) (cond (Nat.beq pc 85) (some (.getfield 152, 88)) none) (cond (Nat.beq pc 88) (some (.iload_n 1, 89)) none))) (cond (Nat.blt pc 91) (cond (Nat.blt pc 90) (cond (Nat.beq pc 89) (some (.iaload, 90)) none) (cond (Nat.beq pc 90) (some (.iaload, 91)) none)) (cond (Nat.blt pc 94) (cond (Nat.beq pc 91) (some (.ifCond .ne 12, 103)) none) (cond (Nat.blt pc 95) (cond (Nat.beq pc 94) (some (.aload_n 0, 95)) none) (cond (Nat.beq pc 95) (some (.iload_n 1, 96)) none)))))) (cond (Nat.blt pc 109) (cond (Nat.blt pc 100) (cond (Nat.blt pc 98) (cond (Nat.blt pc 97) (cond (Nat.beq pc 96) (some (.iload_n 2, 97)) none) (cond (Nat.beq pc 97) (some (.iload_n 3, 98)) none)) (cond (Nat.blt pc 99) (cond (Nat.beq pc 98) (some (.iconst 1, 99)) none) (cond (Nat.beq pc 99) (some (.iadd, 100)) none))) (cond (Nat.blt pc 104) (cond (Nat.blt pc 103) (cond (Nat.beq pc 100) (some (.invokevirtual 261, 103)) none) (cond (Nat.beq pc 103) (some (.iload_n 2, 104)) none)) (cond (Nat.blt pc 105) (cond (Nat.beq pc 104) (some (.iconst 4, 105)) none) (cond (Nat.blt pc 108) (cond (Nat.beq pc 105) (some (.if_icmp .eq 8, 113)) none) (cond (Nat.beq pc 108) (some (.iload_n 2, 109)) none))))) (cond (Nat.blt pc 115) (cond (Nat.blt pc 113) (cond (Nat.blt pc 110) (cond (Nat.beq pc 109) (some (.iconst 3, 110)) none) (cond (Nat.beq pc 110) (some (.if_icmp .ne 11, 121)) none)) (cond (Nat.blt pc 114) (cond (Nat.beq pc 113) (some (.aload_n 0, 114)) none) (cond (Nat.beq pc 114) (some (.iload_n 1, 115)) none))) (cond (Nat.blt pc 117) (cond (Nat.blt pc 116) (cond (Nat.beq pc 115) (some (.iload_n 3, 116)) none) (cond (Nat.beq pc 116) (some (.iconst 1, 117)) none)) (cond (Nat.blt pc 118) (cond (Nat.beq pc 117) (some (.iadd, 118)) none) (cond (Nat.blt pc 121) (cond (Nat.beq pc 118) (some (.invokevirtual 264, 121)) none) (cond (Nat.beq pc 121) (some (.return_, 122)) none)))))))) none
-- CaseDesk.markSiblings(II)V
def xc_59 : Nat → Option (Instr × Nat) := fun pc => cond (Nat.blt pc 52) (cond (Nat.blt pc 26) (cond (Nat.blt pc 13) (cond (Nat.blt pc 3) (cond (Nat.blt pc 1) (cond (Nat.beq pc 0) (some (.iconst 0, 1)) none) (cond (Nat.blt pc 2) (cond (Nat.beq pc 1) (some (.istore_n 3, 2)) none) (cond (Nat.beq pc 2) (some (.iload_n 3, 3)) none))) (cond (Nat.blt pc 7) (cond (Nat.blt pc 4) (cond (Nat.beq pc 3) (some (.aload_n 0, 4)) none) (cond (Nat.beq pc 4) (some (.getfield 19, 7)) none)) (cond (Nat.blt pc 10) (cond (Nat.beq pc 7) (some (.getfield 149, 10)) none) (cond (Nat.beq pc 10) (some (.if_icmp .ge 41, 51)) none)))) (cond (Nat.blt pc 18) (cond (Nat.blt pc 14) (cond (Nat.beq pc 13) (some (.iload_n 3, 14)) none) (cond (Nat.blt pc 15) (cond (Nat.beq pc 14) (some (.iload_n 1, 15)) none) (cond (Nat.beq pc 15) (some (.if_icmp .eq 30, 45)) none))) (cond (Nat.blt pc 22) (cond (Nat.blt pc 19) (cond (Nat.beq pc 18) (some (.aload_n 0, 19)) none) (cond (Nat.beq pc 19) (some (.getfield 19, 22)) none)) (cond (Nat.blt pc 25) (cond (Nat.beq pc 22) (some (.getfield 155, 25)) none) (cond (Nat.beq pc 25) (some (.iload_n 3, 26)) none))))) (cond (Nat.blt pc 39) (cond (Nat.blt pc 31) (cond (Nat.blt pc 27) (cond (Nat.beq pc 26) (some (.iaload, 27)) none) (cond (Nat.blt pc 28) (cond (Nat.beq pc 27) (some (.aload_n 0, 28)) none) (cond (Nat.beq pc 28) (some (.getfield 19, 31)) none))) (cond (Nat.blt pc 35) (cond (Nat.blt pc 34) (cond (Nat.beq pc 31) (some (.getfield 155, 34)) none) (cond (Nat.beq pc 34) (some (.iload_n 1, 35)) none)) (cond (Nat.blt pc 36) (cond (Nat.beq pc 35) (some (.iaload, 36)) none) (cond (Nat.beq pc 36) (some (.if_icmp .ne 9, 45)) none)))) (cond (Nat.blt pc 42) (cond (Nat.blt pc 40) (cond (Nat.beq pc 39) (some (.aload_n 0, 40)) none) (cond (Nat.blt pc 41) (cond (Nat.beq pc 40) (some (.iload_n 3, 41)) none) (cond (Nat.beq pc 41) (some (.iload_n 2, 42)) none))) (cond (Nat.blt pc 48) (cond (Nat.blt pc 45) (cond (Nat.beq pc 42) (some (.invokevirtual 267, 45)) none) (cond (Nat.beq pc 45) (some (.iinc 3 1, 48)) none)) (cond (Nat.blt pc 51) (cond (Nat.beq pc 48) (some (.goto (-46), 2)) none) (cond (Nat.beq pc 51) (some (.return_, 52)) none)))))) none
-- CaseDesk.markAll(I)V
def xc_60 : Nat → Option (Instr × Nat) := fun pc => cond (Nat.blt pc 26) (cond (Nat.blt pc 13) (cond (Nat.blt pc 3) (cond (Nat.blt pc 1) (cond (Nat.beq pc 0) (some (.iconst 0, 1)) none) (cond (Nat.blt pc 2) (cond (Nat.beq pc 1) (some (.istore_n 2, 2)) none) (cond (Nat.beq pc 2) (some (.iload_n 2, 3)) none))) (cond (Nat.blt pc 7) (cond (Nat.blt pc 4) (cond (Nat.beq pc 3) (some (.aload_n 0, 4)) none) (cond (Nat.beq pc 4) (some (.getfield 19, 7)) none)) (cond (Nat.blt pc 10) (cond (Nat.beq pc 7) (some (.getfield 149, 10)) none) (cond (Nat.beq pc 10) (some (.if_icmp .ge 15, 25)) none)))) (cond (Nat.blt pc 16) (cond (Nat.blt pc 14) (cond (Nat.beq pc 13) (some (.aload_n 0, 14)) none) (cond (Nat.blt pc 15) (cond (Nat.beq pc 14) (some (.iload_n 2, 15)) none) (cond (Nat.beq pc 15) (some (.iload_n 1, 16)) none))) (cond (Nat.blt pc 22) (cond (Nat.blt pc 19) (cond (Nat.beq pc 16) (some (.invokevirtual 267, 19)) none) (cond (Nat.beq pc 19) (some (.iinc 2 1, 22)) none)) (cond (Nat.blt pc 25) (cond (Nat.beq pc 22) (some (.goto (-20), 2)) none) (cond (Nat.beq pc 25) (some (.return_, 26)) none))))) none
-- CaseDesk.mark(II)V
def xc_61 : Nat → Option (Instr × Nat) := fun pc => cond (Nat.blt pc 43) (cond (Nat.blt pc 22) (cond (Nat.blt pc 12) (cond (Nat.blt pc 5) (cond (Nat.blt pc 1) (cond (Nat.beq pc 0) (some (.aload_n 0, 1)) none) (cond (Nat.blt pc 4) (cond (Nat.beq pc 1) (some (.getfield 19, 4)) none) (cond (Nat.beq pc 4) (some (.iload_n 1, 5)) none))) (cond (Nat.blt pc 8) (cond (Nat.beq pc 5) (some (.invokevirtual 164, 8)) none) (cond (Nat.blt pc 11) (cond (Nat.beq pc 8) (some (.ifCond .ne 34, 42)) none) (cond (Nat.beq pc 11) (some (.aload_n 0, 12)) none)))) (cond (Nat.blt pc 19) (cond (Nat.blt pc 15) (cond (Nat.beq pc 12) (some (.getfield 19, 15)) none) (cond (Nat.blt pc 18) (cond (Nat.beq pc 15) (some (.getfield 167, 18)) none) (cond (Nat.beq pc 18) (some (.iload_n 1, 19)) none))) (cond (Nat.blt pc 20) (cond (Nat.beq pc 19) (some (.dup2, 20)) none) (cond (Nat.blt pc 21) (cond (Nat.beq pc 20) (some (.iaload, 21)) none) (cond (Nat.beq pc 21) (some (.iload_n 2, 22)) none))))) (cond (Nat.blt pc 36) (cond (Nat.blt pc 29) (cond (Nat.blt pc 23) (cond (Nat.beq pc 22) (some (.aload_n 0, 23)) none) (cond (Nat.blt pc 26) (cond (Nat.beq pc 23) (some (.getfield 10, 26)) none) (cond (Nat.beq pc 26) (some (.getfield 270, 29)) none))) (cond (Nat.blt pc 30) (cond (Nat.beq pc 29) (some (.aload_n 0, 30)) none) (cond (Nat.blt pc 33) (cond (Nat.beq pc 30) (some (.getfield 19, 33)) none) (cond (Nat.beq pc 33) (some (.getfield 152, 36)) none)))) (cond (Nat.blt pc 39) (cond (Nat.blt pc 37) (cond (Nat.beq pc 36) (some (.iload_n 1, 37)) none) (cond (Nat.blt pc 38) (cond (Nat.beq pc 37) (some (.iaload, 38)) none) (cond (Nat.beq pc 38) (some (.iaload, 39)) none))) (cond (Nat.blt pc 41) (cond (Nat.blt pc 40) (cond (Nat.beq pc 39) (some (.iand, 40)) none) (cond (Nat.beq pc 40) (some (.ior, 41)) none)) (cond (Nat.blt pc 42) (cond (Nat.beq pc 41) (some (.iastore, 42)) none) (cond (Nat.beq pc 42) (some (.return_, 43)) none)))))) none
-- CaseDesk.moveWhatIsIn(III)V
def xc_62 : Nat → Option (Instr × Nat) := fun pc => cond (Nat.blt pc 90) (cond (Nat.blt pc 67) (cond (Nat.blt pc 54) (cond (Nat.blt pc 49) (cond (Nat.blt pc 1) (cond (Nat.beq pc 0) (some (.iload_n 2, 1)) none) (cond (Nat.blt pc 48) (cond (Nat.beq pc 1) (some (.tableswitch 88 2 9 #[47, 88, 56, 65, 76, 88, 88, 56], 48)) none) (cond (Nat.beq pc 48) (some (.aload_n 0, 49)) none))) (cond (Nat.blt pc 50) (cond (Nat.beq pc 49) (some (.iload_n 1, 50)) none) (cond (Nat.blt pc 51) (cond (Nat.beq pc 50) (some (.iload_n 3, 51)) none) (cond (Nat.beq pc 51) (some (.invokevirtual 273, 54)) none)))) (cond (Nat.blt pc 59) (cond (Nat.blt pc 57) (cond (Nat.beq pc 54) (some (.goto 35, 89)) none) (cond (Nat.blt pc 58) (cond (Nat.beq pc 57) (some (.aload_n 0, 58)) none) (cond (Nat.beq pc 58) (some (.iload_n 1, 59)) none))) (cond (Nat.blt pc 63) (cond (Nat.blt pc 60) (cond (Nat.beq pc 59) (some (.iload_n 3, 60)) none) (cond (Nat.beq pc 60) (some (.invokevirtual 276, 63)) none)) (cond (Nat.blt pc 66) (cond (Nat.beq pc 63) (some (.goto 26, 89)) none) (cond (Nat.beq pc 66) (some (.aload_n 0, 67)) none))))) (cond (Nat.blt pc 78) (cond (Nat.blt pc 70) (cond (Nat.blt pc 68) (cond (Nat.beq pc 67) (some (.iload_n 1, 68)) none) (cond (Nat.blt pc 69) (cond (Nat.beq pc 68) (some (.iconst 2, 69)) none) (cond (Nat.beq pc 69) (some (.iconst 5, 70)) none))) (cond (Nat.blt pc 74) (cond (Nat.blt pc 71) (cond (Nat.beq pc 70) (some (.iload_n 3, 71)) none) (cond (Nat.beq pc 71) (some (.invokevirtual 279, 74)) none)) (cond (Nat.blt pc 77) (cond (Nat.beq pc 74) (some (.goto 15, 89)) none) (cond (Nat.beq pc 77) (some (.aload_n 0, 78)) none)))) (cond (Nat.blt pc 82) (cond (Nat.blt pc 79) (cond (Nat.beq pc 78) (some (.iload_n 1, 79)) none) (cond (Nat.blt pc 80) (cond (Nat.beq pc 79) (some (.iconst 3, 80)) none) (cond (Nat.beq pc 80) (some (.bipush 6, 82)) none))) (cond (Nat.blt pc 86) (cond (Nat.blt pc 83) (cond (Nat.beq pc 82) (some (.iload_n 3, 83)) none) (cond (Nat.beq pc 83) (some (.invokevirtual 279, 86)) none)) (cond (Nat.blt pc 89) (cond (Nat.beq pc 86) (some (.goto 3, 89)) none) (cond (Nat.beq pc 89) (some (.return_, 90)) none)))))) none
-- CaseDesk.createWhatIsIn(II)V
def xc_63 : Nat → Option (Instr × Nat) := fun pc => cond (Nat.blt pc 48) (cond (Nat.blt pc 23) (cond (Nat.blt pc 10) (cond (Nat.blt pc 3) (cond (Nat.blt pc 1) (cond (Nat.beq pc 0) (some (.iconst 0, 1)) none) (cond (Nat.blt pc 2) (cond (Nat.beq pc 1) (some (.istore_n 3, 2)) none) (cond (Nat.beq pc 2) (some (.iload_n 3, 3)) none))) (cond (Nat.blt pc 4) (cond (Nat.beq pc 3) (some (.aload_n 0, 4)) none) (cond (Nat.blt pc 7) (cond (Nat.beq pc 4) (some (.getfield 10, 7)) none) (cond (Nat.beq pc 7) (some (.getfield 30, 10)) none)))) (cond (Nat.blt pc 17) (cond (Nat.blt pc 13) (cond (Nat.beq pc 10) (some (.if_icmp .ge 37, 47)) none) (cond (Nat.blt pc 14) (cond (Nat.beq pc 13) (some (.aload_n 0, 14)) none) (cond (Nat.beq pc 14) (some (.getfield 10, 17)) none))) (cond (Nat.blt pc 21) (cond (Nat.blt pc 20) (cond (Nat.beq pc 17) (some (.getfield 282, 20)) none) (cond (Nat.beq pc 20) (some (.iload_n 3, 21)) none)) (cond (Nat.blt pc 22) (cond (Nat.beq pc 21) (some (.iaload, 22)) none) (cond (Nat.beq pc 22) (some (.aload_n 0, 23)) none))))) (cond (Nat.blt pc 35) (cond (Nat.blt pc 30) (cond (Nat.blt pc 26) (cond (Nat.beq pc 23) (some (.getfield 19, 26)) none) (cond (Nat.blt pc 29) (cond (Nat.beq pc 26) (some (.getfield 152, 29)) none) (cond (Nat.beq pc 29) (some (.iload_n 1, 30)) none))) (cond (Nat.blt pc 31) (cond (Nat.beq pc 30) (some (.iaload, 31)) none) (cond (Nat.blt pc 34) (cond (Nat.beq pc 31) (some (.if_icmp .ne 10, 41)) none) (cond (Nat.beq pc 34) (some (.aload_n 0, 35)) none)))) (cond (Nat.blt pc 38) (cond (Nat.blt pc 36) (cond (Nat.beq pc 35) (some (.iload_n 3, 36)) none) (cond (Nat.blt pc 37) (cond (Nat.beq pc 36) (some (.iload_n 1, 37)) none) (cond (Nat.beq pc 37) (some (.iload_n 2, 38)) none))) (cond (Nat.blt pc 44) (cond (Nat.blt pc 41) (cond (Nat.beq pc 38) (some (.invokevirtual 105, 41)) none) (cond (Nat.beq pc 41) (some (.iinc 3 1, 44)) none)) (cond (Nat.blt pc 47) (cond (Nat.beq pc 44) (some (.goto (-42), 2)) none) (cond (Nat.beq pc 47) (some (.return_, 48)) none)))))) none
-- CaseDesk.exitChildren(II)V
def xc_64 : Nat → Option (Instr × Nat) := fun pc => cond (Nat.blt pc 59) (cond (Nat.blt pc 27) (cond (Nat.blt pc 13) (cond (Nat.blt pc 7) (cond (Nat.blt pc 1) (cond (Nat.beq pc 0) (some (.aload_n 0, 1)) none) (cond (Nat.blt pc 4) (cond (Nat.beq pc 1) (some (.getfield 19, 4)) none) (cond (Nat.beq pc 4) (some (.getfield 149, 7)) none))) (cond (Nat.blt pc 9) (cond (Nat.blt pc 8) (cond (Nat.beq pc 7) (some (.istore_n 3, 8)) none) (cond (Nat.beq pc 8) (some (.iconst 0, 9)) none)) (cond (Nat.blt pc 11) (cond (Nat.beq pc 9) (some (.istore 4, 11)) none) (cond (Nat.beq pc 11) (some (.iload 4, 13)) none)))) (cond (Nat.blt pc 18) (cond (Nat.blt pc 14) (cond (Nat.beq pc 13) (some (.iload_n 3, 14)) none) (cond (Nat.blt pc 17) (cond (Nat.beq pc 14) (some (.if_icmp .ge 44, 58)) none) (cond (Nat.beq pc 17) (some (.aload_n 0, 18)) none))) (cond (Nat.blt pc 24) (cond (Nat.blt pc 21) (cond (Nat.beq pc 18) (some (.getfield 19, 21)) none) (cond (Nat.beq pc 21) (some (.getfield 155, 24)) none)) (cond (Nat.blt pc 26) (cond (Nat.beq pc 24) (some (.iload 4, 26)) none) (cond (Nat.beq pc 26) (some (.iaload, 27)) none))))) (cond (Nat.blt pc 43) (cond (Nat.blt pc 32) (cond (Nat.blt pc 28) (cond (Nat.beq pc 27) (some (.iload_n 1, 28)) none) (cond (Nat.blt pc 31) (cond (Nat.beq pc 28) (some (.if_icmp .ne 24, 52)) none) (cond (Nat.beq pc 31) (some (.aload_n 0, 32)) none))) (cond (Nat.blt pc 37) (cond (Nat.blt pc 35) (cond (Nat.beq pc 32) (some (.getfield 19, 35)) none) (cond (Nat.beq pc 35) (some (.iload 4, 37)) none)) (cond (Nat.blt pc 40) (cond (Nat.beq pc 37) (some (.invokevirtual 164, 40)) none) (cond (Nat.beq pc 40) (some (.ifCond .ne 12, 52)) none)))) (cond (Nat.blt pc 49) (cond (Nat.blt pc 46) (cond (Nat.blt pc 44) (cond (Nat.beq pc 43) (some (.aload_n 0, 44)) none) (cond (Nat.beq pc 44) (some (.iload 4, 46)) none)) (cond (Nat.blt pc 48) (cond (Nat.beq pc 46) (some (.bipush 9, 48)) none) (cond (Nat.beq pc 48) (some (.iload_n 2, 49)) none))) (cond (Nat.blt pc 55) (cond (Nat.blt pc 52) (cond (Nat.beq pc 49) (some (.invokevirtual 109, 52)) none) (cond (Nat.beq pc 52) (some (.iinc 4 1, 55)) none)) (cond (Nat.blt pc 58) (cond (Nat.beq pc 55) (some (.goto (-44), 11)) none) (cond (Nat.beq pc 58) (some (.return_, 59)) none)))))) none
-- CaseDesk.moveChildren(IIII)V
def xc_65 : Nat → Option (Instr × Nat) := fun pc => cond (Nat.blt pc 63) (cond (Nat.blt pc 30) (cond (Nat.blt pc 14) (cond (Nat.blt pc 7) (cond (Nat.blt pc 1) (cond (Nat.beq pc 0) (some (.aload_n 0, 1)) none) (cond (Nat.blt pc 4) (cond (Nat.beq pc 1) (some (.getfield 19, 4)) none) (cond (Nat.beq pc 4) (some (.getfield 149, 7)) none))) (cond (Nat.blt pc 10) (cond (Nat.blt pc 9) (cond (Nat.beq pc 7) (some (.istore 5, 9)) none) (cond (Nat.beq pc 9) (some (.iconst 0, 10)) none)) (cond (Nat.blt pc 12) (cond (Nat.beq pc 10) (some (.istore 6, 12)) none) (cond (Nat.beq pc 12) (some (.iload 6, 14)) none)))) (cond (Nat.blt pc 23) (cond (Nat.blt pc 19) (cond (Nat.blt pc 16) (cond (Nat.beq pc 14) (some (.iload 5, 16)) none) (cond (Nat.beq pc 16) (some (.if_icmp .ge 46, 62)) none)) (cond (Nat.blt pc 20) (cond (Nat.beq pc 19) (some (.aload_n 0, 20)) none) (cond (Nat.beq pc 20) (some (.getfield 19, 23)) none))) (cond (Nat.blt pc 28) (cond (Nat.blt pc 26) (cond (Nat.beq pc 23) (some (.getfield 155, 26)) none) (cond (Nat.beq pc 26) (some (.iload 6, 28)) none)) (cond (Nat.blt pc 29) (cond (Nat.beq pc 28) (some (.iaload, 29)) none) (cond (Nat.beq pc 29) (some (.iload_n 1, 30)) none))))) (cond (Nat.blt pc 47) (cond (Nat.blt pc 40) (cond (Nat.blt pc 34) (cond (Nat.blt pc 33) (cond (Nat.beq pc 30) (some (.if_icmp .ne 26, 56)) none) (cond (Nat.beq pc 33) (some (.aload_n 0, 34)) none)) (cond (Nat.blt pc 37) (cond (Nat.beq pc 34) (some (.getfield 19, 37)) none) (cond (Nat.beq pc 37) (some (.getfield 158, 40)) none))) (cond (Nat.blt pc 43) (cond (Nat.blt pc 42) (cond (Nat.beq pc 40) (some (.iload 6, 42)) none) (cond (Nat.beq pc 42) (some (.iaload, 43)) none)) (cond (Nat.blt pc 44) (cond (Nat.beq pc 43) (some (.iload_n 2, 44)) none) (cond (Nat.beq pc 44) (some (.if_icmp .ne 12, 56)) none)))) (cond (Nat.blt pc 53) (cond (Nat.blt pc 50) (cond (Nat.blt pc 48) (cond (Nat.beq pc 47) (some (.aload_n 0, 48)) none) (cond (Nat.beq pc 48) (some (.iload 6, 50)) none)) (cond (Nat.blt pc 51) (cond (Nat.beq pc 50) (some (.iload_n 3, 51)) none) (cond (Nat.beq pc 51) (some (.iload 4, 53)) none))) (cond (Nat.blt pc 59) (cond (Nat.blt pc 56) (cond (Nat.beq pc 53) (some (.invokevirtual 109, 56)) none) (cond (Nat.beq pc 56) (some (.iinc 6 1, 59)) none)) (cond (Nat.blt pc 62) (cond (Nat.beq pc 59) (some (.goto (-47), 12)) none) (cond (Nat.beq pc 62) (some (.return_, 63)) none)))))) none
-- CaseDesk.repeat(II)V
def xc_66 : Nat → Option (Instr × Nat) := fun pc => cond (Nat.blt pc 57) (cond (Nat.blt pc 27) (cond (Nat.blt pc 11) (cond (Nat.blt pc 7) (cond (Nat.blt pc 1) (cond (Nat.beq pc 0) (some (.aload_n 0, 1)) none) (cond (Nat.blt pc 4) (cond (Nat.beq pc 1) (some (.getfield 19, 4)) none) (cond (Nat.beq pc 4) (some (.getfield 152, 7)) none))) (cond (Nat.blt pc 9) (cond (Nat.blt pc 8) (cond (Nat.beq pc 7) (some (.iload_n 1, 8)) none) (cond (Nat.beq pc 8) (some (.iaload, 9)) none)) (cond (Nat.blt pc 10) (cond (Nat.beq pc 9) (some (.istore_n 3, 10)) none) (cond (Nat.beq pc 10) (some (.aload_n 0, 11)) none)))) (cond (Nat.blt pc 19) (cond (Nat.blt pc 15) (cond (Nat.blt pc 14) (cond (Nat.beq pc 11) (some (.getfield 10, 14)) none) (cond (Nat.beq pc 14) (some (.iload_n 3, 15)) none)) (cond (Nat.blt pc 16) (cond (Nat.beq pc 15) (some (.iconst 1, 16)) none) (cond (Nat.beq pc 16) (some (.invokevirtual 231, 19)) none))) (cond (Nat.blt pc 23) (cond (Nat.blt pc 22) (cond (Nat.beq pc 19) (some (.ifCond .eq 37, 56)) none) (cond (Nat.beq pc 22) (some (.aload_n 0, 23)) none)) (cond (Nat.blt pc 26) (cond (Nat.beq pc 23) (some (.getfield 10, 26)) none) (cond (Nat.beq pc 26) (some (.iload_n 3, 27)) none))))) (cond (Nat.blt pc 43) (cond (Nat.blt pc 35) (cond (Nat.blt pc 33) (cond (Nat.blt pc 30) (cond (Nat.beq pc 27) (some (.invokevirtual 225, 30)) none) (cond (Nat.beq pc 30) (some (.ifCond .ne 26, 56)) none)) (cond (Nat.blt pc 34) (cond (Nat.beq pc 33) (some (.aload_n 0, 34)) none) (cond (Nat.beq pc 34) (some (.iload_n 1, 35)) none))) (cond (Nat.blt pc 41) (cond (Nat.blt pc 38) (cond (Nat.beq pc 35) (some (.invokevirtual 182, 38)) none) (cond (Nat.beq pc 38) (some (.ifCond .eq 18, 56)) none)) (cond (Nat.blt pc 42) (cond (Nat.beq pc 41) (some (.aload_n 0, 42)) none) (cond (Nat.beq pc 42) (some (.iload_n 3, 43)) none)))) (cond (Nat.blt pc 51) (cond (Nat.blt pc 47) (cond (Nat.blt pc 44) (cond (Nat.beq pc 43) (some (.aload_n 0, 44)) none) (cond (Nat.beq pc 44) (some (.getfield 19, 47)) none)) (cond (Nat.blt pc 50) (cond (Nat.beq pc 47) (some (.getfield 155, 50)) none) (cond (Nat.beq pc 50) (some (.iload_n 1, 51)) none))) (cond (Nat.blt pc 53) (cond (Nat.blt pc 52) (cond (Nat.beq pc 51) (some (.iaload, 52)) none) (cond (Nat.beq pc 52) (some (.iload_n 2, 53)) none)) (cond (Nat.blt pc 56) (cond (Nat.beq pc 53) (some (.invokevirtual 105, 56)) none) (cond (Nat.beq pc 56) (some (.return_, 57)) none)))))) none
-- CaseDeskModel.<init>()V
def xc_67 : Nat → Option (Instr × Nat) := fun pc => cond (Nat.blt pc 263) (cond (Nat.blt pc 132) (cond (Nat.blt pc 65) (cond (Nat.blt pc 30) (cond (Nat.blt pc 14) (cond (Nat.blt pc 6) (cond (Nat.blt pc 4) (cond (Nat.blt pc 1) (cond (Nat.beq pc 0) (some (.aload_n 0, 1)) none) (cond (Nat.beq pc 1) (some (.invokespecial 1, 4)) none)) (cond (Nat.blt pc 5) (cond (Nat.beq pc 4) (some (.aload_n 0, 5)) none) (cond (Nat.beq pc 5) (some (.iconst 1, 6)) none))) (cond (Nat.blt pc 10) (cond (Nat.blt pc 9) (cond (Nat.beq pc 6) (some (.putfield 7, 9)) none) (cond (Nat.beq pc 9) (some (.aload_n 0, 10)) none)) (cond (Nat.blt pc 12) (cond (Nat.beq pc 10) (some (.bipush 12, 12)) none) (cond (Nat.beq pc 12) (some (.newarray .int, 14)) none)))) (cond (Nat.blt pc 22) (cond (Nat.blt pc 18) (cond (Nat.blt pc 17) (cond (Nat.beq pc 14) (some (.putfield 13, 17)) none) (cond (Nat.beq pc 17) (some (.aload_n 0, 18)) none)) (cond (Nat.blt pc 20) (cond (Nat.beq pc 18) (some (.bipush 12, 20)) none) (cond (Nat.beq pc 20) (some (.newarray .int, 22)) none))) (cond (Nat.blt pc 26) (cond (Nat.blt pc 25) (cond (Nat.beq pc 22) (some (.putfield 17, 25)) none) (cond (Nat.beq pc 25) (some (.aload_n 0, 26)) none)) (cond (Nat.blt pc 28) (cond (Nat.beq pc 26) (some (.bipush 12, 28)) none) (cond (Nat.beq pc 28) (some (.newarray .int, 30)) none))))) (cond (Nat.blt pc 46) (cond (Nat.blt pc 38) (cond (Nat.blt pc 34) (cond (Nat.blt pc 33) (cond (Nat.beq pc 30) (some (.putfield 20, 33)) none) (cond (Nat.beq pc 33) (some (.aload_n 0, 34)) none)) (cond (Nat.blt pc 36) (cond (Nat.beq pc 34) (some (.bipush 16, 36)) none) (cond (Nat.beq pc 36) (some (.newarray .int, 38)) none))) (cond (Nat.blt pc 42) (cond (Nat.blt pc 41) (cond (Nat.beq pc 38) (some (.putfield 23, 41)) none) (cond (Nat.beq pc 41) (some (.aload_n 0, 42)) none)) (cond (Nat.blt pc 44) (cond (Nat.beq pc 42) (some (.bipush 16, 44)) none) (cond (Nat.beq pc 44) (some (.newarray .boolean, 46)) none)))) (cond (Nat.blt pc 54) (cond (Nat.blt pc 50) (cond (Nat.blt pc 49) (cond (Nat.beq pc 46) (some (.putfield 26, 49)) none) (cond (Nat.beq pc 49) (some (.aload_n 0, 50)) none)) (cond (Nat.blt pc 52) (cond (Nat.beq pc 50) (some (.bipush 16, 52)) none) (cond (Nat.beq pc 52) (some (.newarray .int, 54)) none))) (cond (Nat.blt pc 58) (cond (Nat.blt pc 57) (cond (Nat.beq pc 54) (some (.putfield 30, 57)) none) (cond (Nat.beq pc 57) (some (.aload_n 0, 58)) none)) (cond (Nat.blt pc 60) (cond (Nat.beq pc 58) (some (.bipush 32, 60)) none) (cond (Nat.blt pc 62) (cond (Nat.beq pc 60) (some (.newarray .int, 62)) none) (cond (Nat.beq pc 62) (some (.putfield 33, 65)) none))))))) (cond (Nat.blt pc 98) (cond (Nat.blt pc 81) (cond (Nat.blt pc 73) (cond (Nat.blt pc 68) (cond (Nat.blt pc 66) (cond (Nat.beq pc 65) (some (.aload_n 0, 66)) none) (cond (Nat.beq pc 66) (some (.bipush 32, 68)) none)) (cond (Nat.blt pc 70) (cond (Nat.beq pc 68) (some (.newarray .int, 70)) none) (cond (Nat.beq pc 70) (some (.putfield 36, 73)) none))) (cond (Nat.blt pc 76) (cond (Nat.blt pc 74) (cond (Nat.beq pc 73) (some (.aload_n 0, 74)) none) (cond (Nat.beq pc 74) (some (.bipush 16, 76)) none)) (cond (Nat.blt pc 78) (cond (Nat.beq pc 76) (some (.newarray .boolean, 78)) none) (cond (Nat.beq pc 78) (some (.putfield 39, 81)) none)))) (cond (Nat.blt pc 89) (cond (Nat.blt pc 84) (cond (Nat.blt pc 82) (cond (Nat.beq pc 81) (some (.aload_n 0, 82)) none) (cond (Nat.beq pc 82) (some (.bipush 16, 84)) none)) (cond (Nat.blt pc 86) (cond (Nat.beq pc 84) (some (.newarray .int, 86)) none) (cond (Nat.beq pc 86) (some (.putfield 42, 89)) none))) (cond (Nat.blt pc 92) (cond (Nat.blt pc 90) (cond (Nat.beq pc 89) (some (.aload_n 0, 90)) none) (cond (Nat.beq pc 90) (some (.bipush 16, 92)) none)) (cond (Nat.blt pc 94) (cond (Nat.beq pc 92) (some (.newarray .int, 94)) none) (cond (Nat.blt pc 97) (cond (Nat.beq pc 94) (some (.putfield 45, 97)) none) (cond (Nat.beq pc 97) (some (.aload_n 0, 98)) none)))))) (cond (Nat.blt pc 114) (cond (Nat.blt pc 106) (cond (Nat.blt pc 102) (cond (Nat.blt pc 100) (cond (Nat.beq pc 98) (some (.bipush 16, 100)) none) (cond (Nat.beq pc 100) (some (.newarray .int, 102)) none)) (cond (Nat.blt pc 105) (cond (Nat.beq pc 102) (some (.putfield 48, 105)) none) (cond (Nat.beq pc 105) (some (.aload_n 0, 106)) none))) (cond (Nat.blt pc 110) (cond (Nat.blt pc 108) (cond (Nat.beq pc 106) (some (.bipush 40, 108)) none) (cond (Nat.beq pc 108) (some (.newarray .int, 110)) none)) (cond (Nat.blt pc 113) (cond (Nat.beq pc 110) (some (.putfield 51, 113)) none) (cond (Nat.beq pc 113) (some (.aload_n 0, 114)) none)))) (cond (Nat.blt pc 122) (cond (Nat.blt pc 118) (cond (Nat.blt pc 116) (cond (Nat.beq pc 114) (some (.bipush 40, 116)) none) (cond (Nat.beq pc 116) (some (.newarray .int, 118)) none)) (cond (Nat.blt pc 121) (cond (Nat.beq pc 118) (some (.putfield 54, 121)) none) (cond (Nat.beq pc 121) (some (.aload_n 0, 122)) none))) (cond (Nat.blt pc 126) (cond (Nat.blt pc 124) (cond (Nat.beq pc 122) (some (.bipush 40, 124)) none) (cond (Nat.beq pc 124) (some (.newarray .int, 126)) none)) (cond (Nat.blt pc 129) (cond (Nat.beq pc 126) (some (.putfield 57, 129)) none) (cond (Nat.blt pc 130) (cond (Nat.beq pc 129) (some (.aload_n 0, 130)) none) (cond (Nat.beq pc 130) (some (.bipush 40, 132)) none)))))))) (cond (Nat.blt pc 200) (cond (Nat.blt pc 165) (cond (Nat.blt pc 147) (cond (Nat.blt pc 140) (cond (Nat.blt pc 137) (cond (Nat.blt pc 134) (cond (Nat.beq pc 132) (some (.newarray .int, 134)) none) (cond (Nat.beq pc 134) (some (.putfield 60, 137)) none)) (cond (Nat.blt pc 138) (cond (Nat.beq pc 137) (some (.aload_n 0, 138)) none) (cond (Nat.beq pc 138) (some (.bipush 40, 140)) none))) (cond (Nat.blt pc 145) (cond (Nat.blt pc 142) (cond (Nat.beq pc 140) (some (.newarray .int, 142)) none) (cond (Nat.beq pc 142) (some (.putfield 63, 145)) none)) (cond (Nat.blt pc 146) (cond (Nat.beq pc 145) (some (.aload_n 0, 146)) none) (cond (Nat.beq pc 146) (some (.iconst 4, 147)) none)))) (cond (Nat.blt pc 155) (cond (Nat.blt pc 152) (cond (Nat.blt pc 149) (cond (Nat.beq pc 147) (some (.newarray .int, 149)) none) (cond (Nat.beq pc 149) (some (.putfield 66, 152)) none)) (cond (Nat.blt pc 153) (cond (Nat.beq pc 152) (some (.aload_n 0, 153)) none) (cond (Nat.beq pc 153) (some (.bipush 48, 155)) none))) (cond (Nat.blt pc 160) (cond (Nat.blt pc 157) (cond (Nat.beq pc 155) (some (.newarray .int, 157)) none) (cond (Nat.beq pc 157) (some (.putfield 69, 160)) none)) (cond (Nat.blt pc 161) (cond (Nat.beq pc 160) (some (.aload_n 0, 161)) none) (cond (Nat.blt pc 163) (cond (Nat.beq pc 161) (some (.bipush 48, 163)) none) (cond (Nat.beq pc 163) (some (.newarray .int, 165)) none)))))) (cond (Nat.blt pc 181) (cond (Nat.blt pc 173) (cond (Nat.blt pc 169) (cond (Nat.blt pc 168) (cond (Nat.beq pc 165) (some (.putfield 72, 168)) none) (cond (Nat.beq pc 168) (some (.aload_n 0, 169)) none)) (cond (Nat.blt pc 171) (cond (Nat.beq pc 169) (some (.bipush 40, 171)) none) (cond (Nat.beq pc 171) (some (.newarray .int, 173)) none))) (cond (Nat.blt pc 177) (cond (Nat.blt pc 176) (cond (Nat.beq pc 173) (some (.putfield 75, 176)) none) (cond (Nat.beq pc 176) (some (.aload_n 0, 177)) none)) (cond (Nat.blt pc 179) (cond (Nat.beq pc 177) (some (.bipush 40, 179)) none) (cond (Nat.beq pc 179) (some (.newarray .int, 181)) none)))) (cond (Nat.blt pc 189) (cond (Nat.blt pc 185) (cond (Nat.blt pc 184) (cond (Nat.beq pc 181) (some (.putfield 78, 184)) none) (cond (Nat.beq pc 184) (some (.aload_n 0, 185)) none)) (cond (Nat.blt pc 187) (cond (Nat.beq pc 185) (some (.bipush 40, 187)) none) (cond (Nat.beq pc 187) (some (.newarray .int, 189)) none))) (cond (Nat.blt pc 193) (cond (Nat.blt pc 192) (cond (Nat.beq pc 189) (some (.putfield 81, 192)) none) (cond (Nat.beq pc 192) (some (.aload_n 0, 193)) none)) (cond (Nat.blt pc 195) (cond (Nat.beq pc 193) (some (.bipush 40, 195)) none) (cond (Nat.blt pc 197) (cond (Nat.beq pc 195) (some (.newarray .int, 197)) none) (cond (Nat.beq pc 197) (some (.putfield 84, 200)) none))))))) (cond (Nat.blt pc 232) (cond (Nat.blt pc 215) (cond (Nat.blt pc 208) (cond (Nat.blt pc 203) (cond (Nat.blt pc 201) (cond (Nat.beq pc 200) (some (.aload_n 0, 201)) none) (cond (Nat.beq pc 201) (some (.bipush 40, 203)) none)) (cond (Nat.blt pc 205) (cond (Nat.beq pc 203) (some (.newarray .int, 205)) none) (cond (Nat.beq pc 205) (some (.putfield 87, 208)) none))) (cond (Nat.blt pc 210) (cond (Nat.blt pc 209) (cond (Nat.beq pc 208) (some (.aload_n 0, 209)) none) (cond (Nat.beq pc 209) (some (.iconst 4, 210)) none)) (cond (Nat.blt pc 212) (cond (Nat.beq pc 210) (some (.newarray .int, 212)) none) (cond (Nat.beq pc 212) (some (.putfield 90, 215)) none)))) (cond (Nat.blt pc 223) (cond (Nat.blt pc 218) (cond (Nat.blt pc 216) (cond (Nat.beq pc 215) (some (.aload_n 0, 216)) none) (cond (Nat.beq pc 216) (some (.bipush 48, 218)) none)) (cond (Nat.blt pc 220) (cond (Nat.beq pc 218) (some (.newarray .int, 220)) none) (cond (Nat.beq pc 220) (some (.putfield 93, 223)) none))) (cond (Nat.blt pc 226) (cond (Nat.blt pc 224) (cond (Nat.beq pc 223) (some (.aload_n 0, 224)) none) (cond (Nat.beq pc 224) (some (.bipush 48, 226)) none)) (cond (Nat.blt pc 228) (cond (Nat.beq pc 226) (some (.newarray .int, 228)) none) (cond (Nat.blt pc 231) (cond (Nat.beq pc 228) (some (.putfield 96, 231)) none) (cond (Nat.beq pc 231) (some (.aload_n 0, 232)) none)))))) (cond (Nat.blt pc 248) (cond (Nat.blt pc 240) (cond (Nat.blt pc 236) (cond (Nat.blt pc 234) (cond (Nat.beq pc 232) (some (.bipush 16, 234)) none) (cond (Nat.beq pc 234) (some (.newarray .int, 236)) none)) (cond (Nat.blt pc 239) (cond (Nat.beq pc 236) (some (.putfield 99, 239)) none) (cond (Nat.beq pc 239) (some (.aload_n 0, 240)) none))) (cond (Nat.blt pc 244) (cond (Nat.blt pc 242) (cond (Nat.beq pc 240) (some (.bipush 16, 242)) none) (cond (Nat.beq pc 242) (some (.newarray .int, 244)) none)) (cond (Nat.blt pc 247) (cond (Nat.beq pc 244) (some (.putfield 102, 247)) none) (cond (Nat.beq pc 247) (some (.aload_n 0, 248)) none)))) (cond (Nat.blt pc 256) (cond (Nat.blt pc 252) (cond (Nat.blt pc 250) (cond (Nat.beq pc 248) (some (.bipush 16, 250)) none) (cond (Nat.beq pc 250) (some (.newarray .int, 252)) none)) (cond (Nat.blt pc 255) (cond (Nat.beq pc 252) (some (.putfield 105, 255)) none) (cond (Nat.beq pc 255) (some (.aload_n 0, 256)) none))) (cond (Nat.blt pc 260) (cond (Nat.blt pc 259) (cond (Nat.beq pc 256) (some (.getfield 17, 259)) none) (cond (Nat.beq pc 259) (some (.iconst 0, 260)) none)) (cond (Nat.blt pc 261) (cond (Nat.beq pc 260) (some (.iconst (-1), 261)) none) (cond (Nat.blt pc 262) (cond (Nat.beq pc 261) (some (.iastore, 262)) none) (cond (Nat.beq pc 262) (some (.return_, 263)) none))))))))) none
-- CaseDeskModel.thrown()I
def xc_68 : Nat → Option (Instr × Nat) := fun pc => cond (Nat.blt pc 5) (cond (Nat.blt pc 1) (cond (Nat.beq pc 0) (some (.aload_n 0, 1)) none) (cond (Nat.blt pc 4) (cond (Nat.beq pc 1) (some (.getfield 108, 4)) none) (cond (Nat.beq pc 4) (some (.ireturn, 5)) none))) none
-- CaseDeskModel.fail(I)I
def xc_69 : Nat → Option (Instr × Nat) := fun pc => cond (Nat.blt pc 7) (cond (Nat.blt pc 2) (cond (Nat.blt pc 1) (cond (Nat.beq pc 0) (some (.aload_n 0, 1)) none) (cond (Nat.beq pc 1) (some (.iload_n 1, 2)) none)) (cond (Nat.blt pc 5) (cond (Nat.beq pc 2) (some (.putfield 108, 5)) none) (cond (Nat.blt pc 6) (cond (Nat.beq pc 5) (some (.iconst 0, 6)) none) (cond (Nat.beq pc 6) (some (.ireturn, 7)) none)))) none
-- CaseDeskModel.within(II)Z
def xc_70 : Nat → Option (Instr × Nat) := fun pc => cond (Nat.blt pc 15) (cond (Nat.blt pc 6) (cond (Nat.blt pc 4) (cond (Nat.blt pc 1) (cond (Nat.beq pc 0) (some (.iload_n 0, 1)) none) (cond (Nat.beq pc 1) (some (.ifCond .lt 12, 13)) none)) (cond (Nat.blt pc 5) (cond (Nat.beq pc 4) (some (.iload_n 0, 5)) none) (cond (Nat.beq pc 5) (some (.iload_n 1, 6)) none))) (cond (Nat.blt pc 10) (cond (Nat.blt pc 9) (cond (Nat.beq pc 6) (some (.if_icmp .gt 7, 13)) none) (cond (Nat.beq pc 9) (some (.iconst 1, 10)) none)) (cond (Nat.blt pc 13) (cond (Nat.beq pc 10) (some (.goto 4, 14)) none) (cond (Nat.blt pc 14) (cond (Nat.beq pc 13) (some (.iconst 0, 14)) none) (cond (Nat.beq pc 14) (some (.ireturn, 15)) none))))) none
-- CaseDeskModel.item(III)I
def xc_71 : Nat → Option (Instr × Nat) := fun pc => cond (Nat.blt pc 135) (cond (Nat.blt pc 72) (cond (Nat.blt pc 36) (cond (Nat.blt pc 18) (cond (Nat.blt pc 6) (cond (Nat.blt pc 2) (cond (Nat.blt pc 1) (cond (Nat.beq pc 0) (some (.aload_n 0, 1)) none) (cond (Nat.beq pc 1) (some (.iconst 0, 2)) none)) (cond (Nat.blt pc 5) (cond (Nat.beq pc 2) (some (.putfield 108, 5)) none) (cond (Nat.beq pc 5) (some (.aload_n 0, 6)) none))) (cond (Nat.blt pc 12) (cond (Nat.blt pc 9) (cond (Nat.beq pc 6) (some (.getfield 111, 9)) none) (cond (Nat.beq pc 9) (some (.ifCond .ne 12, 21)) none)) (cond (Nat.blt pc 13) (cond (Nat.beq pc 12) (some (.aload_n 0, 13)) none) (cond (Nat.blt pc 16) (cond (Nat.beq pc 13) (some (.getfield 7, 16)) none) (cond (Nat.beq pc 16) (some (.bipush 12, 18)) none))))) (cond (Nat.blt pc 27) (cond (Nat.blt pc 22) (cond (Nat.blt pc 21) (cond (Nat.beq pc 18) (some (.if_icmp .ne 9, 27)) none) (cond (Nat.beq pc 21) (some (.aload_n 0, 22)) none)) (cond (Nat.blt pc 23) (cond (Nat.beq pc 22) (some (.iconst 1, 23)) none) (cond (Nat.blt pc 26) (cond (Nat.beq pc 23) (some (.invokevirtual 115, 26)) none) (cond (Nat.beq pc 26) (some (.ireturn, 27)) none)))) (cond (Nat.blt pc 29) (cond (Nat.blt pc 28) (cond (Nat.beq pc 27) (some (.iload_n 1, 28)) none) (cond (Nat.beq pc 28) (some (.iconst 3, 29)) none)) (cond (Nat.blt pc 32) (cond (Nat.beq pc 29) (some (.invokestatic 119, 32)) none) (cond (Nat.blt pc 35) (cond (Nat.beq pc 32) (some (.ifCond .eq 25, 57)) none) (cond (Nat.beq pc 35) (some (.iload_n 2, 36)) none)))))) (cond (Nat.blt pc 54) (cond (Nat.blt pc 42) (cond (Nat.blt pc 40) (cond (Nat.blt pc 37) (cond (Nat.beq pc 36) (some (.aload_n 0, 37)) none) (cond (Nat.beq pc 37) (some (.getfield 7, 40)) none)) (cond (Nat.blt pc 41) (cond (Nat.beq pc 40) (some (.iconst 1, 41)) none) (cond (Nat.beq pc 41) (some (.isub, 42)) none))) (cond (Nat.blt pc 48) (cond (Nat.blt pc 45) (cond (Nat.beq pc 42) (some (.invokestatic 119, 45)) none) (cond (Nat.beq pc 45) (some (.ifCond .eq 12, 57)) none)) (cond (Nat.blt pc 49) (cond (Nat.beq pc 48) (some (.iload_n 3, 49)) none) (cond (Nat.blt pc 51) (cond (Nat.beq pc 49) (some (.bipush 15, 51)) none) (cond (Nat.beq pc 51) (some (.invokestatic 119, 54)) none))))) (cond (Nat.blt pc 63) (cond (Nat.blt pc 58) (cond (Nat.blt pc 57) (cond (Nat.beq pc 54) (some (.ifCond .ne 9, 63)) none) (cond (Nat.beq pc 57) (some (.aload_n 0, 58)) none)) (cond (Nat.blt pc 59) (cond (Nat.beq pc 58) (some (.iconst 2, 59)) none) (cond (Nat.blt pc 62) (cond (Nat.beq pc 59) (some (.invokevirtual 115, 62)) none) (cond (Nat.beq pc 62) (some (.ireturn, 63)) none)))) (cond (Nat.blt pc 67) (cond (Nat.blt pc 64) (cond (Nat.beq pc 63) (some (.aload_n 0, 64)) none) (cond (Nat.beq pc 64) (some (.getfield 13, 67)) none)) (cond (Nat.blt pc 68) (cond (Nat.beq pc 67) (some (.iload_n 2, 68)) none) (cond (Nat.blt pc 69) (cond (Nat.beq pc 68) (some (.iaload, 69)) none) (cond (Nat.beq pc 69) (some (.ifCond .ne 13, 82)) none))))))) (cond (Nat.blt pc 106) (cond (Nat.blt pc 88) (cond (Nat.blt pc 79) (cond (Nat.blt pc 75) (cond (Nat.blt pc 73) (cond (Nat.beq pc 72) (some (.iload_n 3, 73)) none) (cond (Nat.beq pc 73) (some (.bipush 7, 75)) none)) (cond (Nat.blt pc 78) (cond (Nat.beq pc 75) (some (.if_icmp .le 13, 88)) none) (cond (Nat.beq pc 78) (some (.iload_n 1, 79)) none))) (cond (Nat.blt pc 83) (cond (Nat.blt pc 82) (cond (Nat.beq pc 79) (some (.ifCond .eq 9, 88)) none) (cond (Nat.beq pc 82) (some (.aload_n 0, 83)) none)) (cond (Nat.blt pc 84) (cond (Nat.beq pc 83) (some (.iconst 2, 84)) none) (cond (Nat.blt pc 87) (cond (Nat.beq pc 84) (some (.invokevirtual 115, 87)) none) (cond (Nat.beq pc 87) (some (.ireturn, 88)) none))))) (cond (Nat.blt pc 97) (cond (Nat.blt pc 92) (cond (Nat.blt pc 89) (cond (Nat.beq pc 88) (some (.aload_n 0, 89)) none) (cond (Nat.beq pc 89) (some (.getfield 13, 92)) none)) (cond (Nat.blt pc 93) (cond (Nat.beq pc 92) (some (.aload_n 0, 93)) none) (cond (Nat.blt pc 96) (cond (Nat.beq pc 93) (some (.getfield 7, 96)) none) (cond (Nat.beq pc 96) (some (.iload_n 1, 97)) none)))) (cond (Nat.blt pc 99) (cond (Nat.blt pc 98) (cond (Nat.beq pc 97) (some (.iastore, 98)) none) (cond (Nat.beq pc 98) (some (.aload_n 0, 99)) none)) (cond (Nat.blt pc 102) (cond (Nat.beq pc 99) (some (.getfield 17, 102)) none) (cond (Nat.blt pc 103) (cond (Nat.beq pc 102) (some (.aload_n 0, 103)) none) (cond (Nat.beq pc 103) (some (.getfield 7, 106)) none)))))) (cond (Nat.blt pc 119) (cond (Nat.blt pc 112) (cond (Nat.blt pc 108) (cond (Nat.blt pc 107) (cond (Nat.beq pc 106) (some (.iload_n 2, 107)) none) (cond (Nat.beq pc 107) (some (.iastore, 108)) none)) (cond (Nat.blt pc 109) (cond (Nat.beq pc 108) (some (.aload_n 0, 109)) none) (cond (Nat.beq pc 109) (some (.getfield 20, 112)) none))) (cond (Nat.blt pc 116) (cond (Nat.blt pc 113) (cond (Nat.beq pc 112) (some (.aload_n 0, 113)) none) (cond (Nat.beq pc 113) (some (.getfield 7, 116)) none)) (cond (Nat.blt pc 117) (cond (Nat.beq pc 116) (some (.iload_n 3, 117)) none) (cond (Nat.blt pc 118) (cond (Nat.beq pc 117) (some (.iastore, 118)) none) (cond (Nat.beq pc 118) (some (.aload_n 0, 119)) none))))) (cond (Nat.blt pc 128) (cond (Nat.blt pc 123) (cond (Nat.blt pc 120) (cond (Nat.beq pc 119) (some (.dup, 120)) none) (cond (Nat.beq pc 120) (some (.getfield 7, 123)) none)) (cond (Nat.blt pc 124) (cond (Nat.beq pc 123) (some (.iconst 1, 124)) none) (cond (Nat.blt pc 125) (cond (Nat.beq pc 124) (some (.iadd, 125)) none) (cond (Nat.beq pc 125) (some (.putfield 7, 128)) none)))) (cond (Nat.blt pc 132) (cond (Nat.blt pc 129) (cond (Nat.beq pc 128) (some (.aload_n 0, 129)) none) (cond (Nat.beq pc 129) (some (.getfield 7, 132)) none)) (cond (Nat.blt pc 133) (cond (Nat.beq pc 132) (some (.iconst 1, 133)) none) (cond (Nat.blt pc 134) (cond (Nat.beq pc 133) (some (.isub, 134)) none) (cond (Nat.beq pc 134) (some (.ireturn, 135)) none)))))))) none
-- CaseDeskModel.sentry(IZ)I
def xc_72 : Nat → Option (Instr × Nat) := fun pc => cond (Nat.blt pc 127) (cond (Nat.blt pc 66) (cond (Nat.blt pc 33) (cond (Nat.blt pc 18) (cond (Nat.blt pc 6) (cond (Nat.blt pc 2) (cond (Nat.blt pc 1) (cond (Nat.beq pc 0) (some (.aload_n 0, 1)) none) (cond (Nat.beq pc 1) (some (.iconst 0, 2)) none)) (cond (Nat.blt pc 5) (cond (Nat.beq pc 2) (some (.putfield 108, 5)) none) (cond (Nat.beq pc 5) (some (.aload_n 0, 6)) none))) (cond (Nat.blt pc 12) (cond (Nat.blt pc 9) (cond (Nat.beq pc 6) (some (.getfield 111, 9)) none) (cond (Nat.beq pc 9) (some (.ifCond .ne 12, 21)) none)) (cond (Nat.blt pc 13) (cond (Nat.beq pc 12) (some (.aload_n 0, 13)) none) (cond (Nat.blt pc 16) (cond (Nat.beq pc 13) (some (.getfield 123, 16)) none) (cond (Nat.beq pc 16) (some (.bipush 16, 18)) none))))) (cond (Nat.blt pc 26) (cond (Nat.blt pc 22) (cond (Nat.blt pc 21) (cond (Nat.beq pc 18) (some (.if_icmp .ne 9, 27)) none) (cond (Nat.beq pc 21) (some (.aload_n 0, 22)) none)) (cond (Nat.blt pc 23) (cond (Nat.beq pc 22) (some (.iconst 1, 23)) none) (cond (Nat.beq pc 23) (some (.invokevirtual 115, 26)) none))) (cond (Nat.blt pc 28) (cond (Nat.blt pc 27) (cond (Nat.beq pc 26) (some (.ireturn, 27)) none) (cond (Nat.beq pc 27) (some (.iload_n 1, 28)) none)) (cond (Nat.blt pc 29) (cond (Nat.beq pc 28) (some (.iconst 1, 29)) none) (cond (Nat.blt pc 32) (cond (Nat.beq pc 29) (some (.if_icmp .lt 11, 40)) none) (cond (Nat.beq pc 32) (some (.iload_n 1, 33)) none)))))) (cond (Nat.blt pc 50) (cond (Nat.blt pc 41) (cond (Nat.blt pc 37) (cond (Nat.blt pc 34) (cond (Nat.beq pc 33) (some (.aload_n 0, 34)) none) (cond (Nat.beq pc 34) (some (.getfield 7, 37)) none)) (cond (Nat.blt pc 40) (cond (Nat.beq pc 37) (some (.if_icmp .lt 9, 46)) none) (cond (Nat.beq pc 40) (some (.aload_n 0, 41)) none))) (cond (Nat.blt pc 45) (cond (Nat.blt pc 42) (cond (Nat.beq pc 41) (some (.iconst 2, 42)) none) (cond (Nat.beq pc 42) (some (.invokevirtual 115, 45)) none)) (cond (Nat.blt pc 46) (cond (Nat.beq pc 45) (some (.ireturn, 46)) none) (cond (Nat.blt pc 47) (cond (Nat.beq pc 46) (some (.aload_n 0, 47)) none) (cond (Nat.beq pc 47) (some (.getfield 13, 50)) none))))) (cond (Nat.blt pc 57) (cond (Nat.blt pc 52) (cond (Nat.blt pc 51) (cond (Nat.beq pc 50) (some (.iload_n 1, 51)) none) (cond (Nat.beq pc 51) (some (.iaload, 52)) none)) (cond (Nat.blt pc 53) (cond (Nat.beq pc 52) (some (.iload_n 2, 53)) none) (cond (Nat.blt pc 56) (cond (Nat.beq pc 53) (some (.ifCond .eq 7, 60)) none) (cond (Nat.beq pc 56) (some (.iconst 1, 57)) none)))) (cond (Nat.blt pc 61) (cond (Nat.blt pc 60) (cond (Nat.beq pc 57) (some (.goto 4, 61)) none) (cond (Nat.beq pc 60) (some (.iconst 2, 61)) none)) (cond (Nat.blt pc 64) (cond (Nat.beq pc 61) (some (.if_icmp .le 9, 70)) none) (cond (Nat.blt pc 65) (cond (Nat.beq pc 64) (some (.aload_n 0, 65)) none) (cond (Nat.beq pc 65) (some (.iconst 2, 66)) none))))))) (cond (Nat.blt pc 98) (cond (Nat.blt pc 81) (cond (Nat.blt pc 74) (cond (Nat.blt pc 70) (cond (Nat.blt pc 69) (cond (Nat.beq pc 66) (some (.invokevirtual 115, 69)) none) (cond (Nat.beq pc 69) (some (.ireturn, 70)) none)) (cond (Nat.blt pc 71) (cond (Nat.beq pc 70) (some (.aload_n 0, 71)) none) (cond (Nat.beq pc 71) (some (.getfield 23, 74)) none))) (cond (Nat.blt pc 78) (cond (Nat.blt pc 75) (cond (Nat.beq pc 74) (some (.aload_n 0, 75)) none) (cond (Nat.beq pc 75) (some (.getfield 123, 78)) none)) (cond (Nat.blt pc 79) (cond (Nat.beq pc 78) (some (.iload_n 1, 79)) none) (cond (Nat.blt pc 80) (cond (Nat.beq pc 79) (some (.iastore, 80)) none) (cond (Nat.beq pc 80) (some (.aload_n 0, 81)) none))))) (cond (Nat.blt pc 89) (cond (Nat.blt pc 85) (cond (Nat.blt pc 84) (cond (Nat.beq pc 81) (some (.getfield 26, 84)) none) (cond (Nat.beq pc 84) (some (.aload_n 0, 85)) none)) (cond (Nat.blt pc 88) (cond (Nat.beq pc 85) (some (.getfield 123, 88)) none) (cond (Nat.beq pc 88) (some (.iload_n 2, 89)) none))) (cond (Nat.blt pc 91) (cond (Nat.blt pc 90) (cond (Nat.beq pc 89) (some (.bastore, 90)) none) (cond (Nat.beq pc 90) (some (.aload_n 0, 91)) none)) (cond (Nat.blt pc 94) (cond (Nat.beq pc 91) (some (.getfield 30, 94)) none) (cond (Nat.blt pc 95) (cond (Nat.beq pc 94) (some (.aload_n 0, 95)) none) (cond (Nat.beq pc 95) (some (.getfield 123, 98)) none)))))) (cond (Nat.blt pc 111) (cond (Nat.blt pc 104) (cond (Nat.blt pc 100) (cond (Nat.blt pc 99) (cond (Nat.beq pc 98) (some (.iconst 0, 99)) none) (cond (Nat.beq pc 99) (some (.iastore, 100)) none)) (cond (Nat.blt pc 101) (cond (Nat.beq pc 100) (some (.aload_n 0, 101)) none) (cond (Nat.beq pc 101) (some (.getfield 39, 104)) none))) (cond (Nat.blt pc 108) (cond (Nat.blt pc 105) (cond (Nat.beq pc 104) (some (.aload_n 0, 105)) none) (cond (Nat.beq pc 105) (some (.getfield 123, 108)) none)) (cond (Nat.blt pc 109) (cond (Nat.beq pc 108) (some (.iconst 0, 109)) none) (cond (Nat.blt pc 110) (cond (Nat.beq pc 109) (some (.bastore, 110)) none) (cond (Nat.beq pc 110) (some (.aload_n 0, 111)) none))))) (cond (Nat.blt pc 120) (cond (Nat.blt pc 115) (cond (Nat.blt pc 112) (cond (Nat.beq pc 111) (some (.dup, 112)) none) (cond (Nat.beq pc 112) (some (.getfield 123, 115)) none)) (cond (Nat.blt pc 116) (cond (Nat.beq pc 115) (some (.iconst 1, 116)) none) (cond (Nat.blt pc 117) (cond (Nat.beq pc 116) (some (.iadd, 117)) none) (cond (Nat.beq pc 117) (some (.putfield 123, 120)) none)))) (cond (Nat.blt pc 124) (cond (Nat.blt pc 121) (cond (Nat.beq pc 120) (some (.aload_n 0, 121)) none) (cond (Nat.beq pc 121) (some (.getfield 123, 124)) none)) (cond (Nat.blt pc 125) (cond (Nat.beq pc 124) (some (.iconst 1, 125)) none) (cond (Nat.blt pc 126) (cond (Nat.beq pc 125) (some (.isub, 126)) none) (cond (Nat.beq pc 126) (some (.ireturn, 127)) none)))))))) none
-- CaseDeskModel.isSentry(I)Z
def xc_73 : Nat → Option (Instr × Nat) := fun pc => cond (Nat.blt pc 18) (cond (Nat.blt pc 9) (cond (Nat.blt pc 4) (cond (Nat.blt pc 1) (cond (Nat.beq pc 0) (some (.iload_n 1, 1)) none) (cond (Nat.beq pc 1) (some (.ifCond .lt 15, 16)) none)) (cond (Nat.blt pc 5) (cond (Nat.beq pc 4) (some (.iload_n 1, 5)) none) (cond (Nat.blt pc 6) (cond (Nat.beq pc 5) (some (.aload_n 0, 6)) none) (cond (Nat.beq pc 6) (some (.getfield 123, 9)) none)))) (cond (Nat.blt pc 13) (cond (Nat.blt pc 12) (cond (Nat.beq pc 9) (some (.if_icmp .ge 7, 16)) none) (cond (Nat.beq pc 12) (some (.iconst 1, 13)) none)) (cond (Nat.blt pc 16) (cond (Nat.beq pc 13) (some (.goto 4, 17)) none) (cond (Nat.blt pc 17) (cond (Nat.beq pc 16) (some (.iconst 0, 17)) none) (cond (Nat.beq pc 17) (some (.ireturn, 18)) none))))) none
-- CaseDeskModel.on(III)I
def xc_74 : Nat → Option (Instr × Nat) := fun pc => cond (Nat.blt pc 186) (cond (Nat.blt pc 101) (cond (Nat.blt pc 49) (cond (Nat.blt pc 25) (cond (Nat.blt pc 12) (cond (Nat.blt pc 5) (cond (Nat.blt pc 1) (cond (Nat.beq pc 0) (some (.aload_n 0, 1)) none) (cond (Nat.blt pc 2) (cond (Nat.beq pc 1) (some (.iconst 0, 2)) none) (cond (Nat.beq pc 2) (some (.putfield 108, 5)) none))) (cond (Nat.blt pc 6) (cond (Nat.beq pc 5) (some (.aload_n 0, 6)) none) (cond (Nat.blt pc 9) (cond (Nat.beq pc 6) (some (.getfield 111, 9)) none) (cond (Nat.beq pc 9) (some (.ifCond .ne 21, 30)) none)))) (cond (Nat.blt pc 17) (cond (Nat.blt pc 13) (cond (Nat.beq pc 12) (some (.aload_n 0, 13)) none) (cond (Nat.blt pc 14) (cond (Nat.beq pc 13) (some (.iload_n 1, 14)) none) (cond (Nat.beq pc 14) (some (.invokevirtual 126, 17)) none))) (cond (Nat.blt pc 21) (cond (Nat.blt pc 20) (cond (Nat.beq pc 17) (some (.ifCond .eq 19, 36)) none) (cond (Nat.beq pc 20) (some (.aload_n 0, 21)) none)) (cond (Nat.blt pc 24) (cond (Nat.beq pc 21) (some (.getfield 30, 24)) none) (cond (Nat.beq pc 24) (some (.iload_n 1, 25)) none))))) (cond (Nat.blt pc 36) (cond (Nat.blt pc 30) (cond (Nat.blt pc 26) (cond (Nat.beq pc 25) (some (.iaload, 26)) none) (cond (Nat.blt pc 27) (cond (Nat.beq pc 26) (some (.iconst 2, 27)) none) (cond (Nat.beq pc 27) (some (.if_icmp .ne 9, 36)) none))) (cond (Nat.blt pc 32) (cond (Nat.blt pc 31) (cond (Nat.beq pc 30) (some (.aload_n 0, 31)) none) (cond (Nat.beq pc 31) (some (.iconst 1, 32)) none)) (cond (Nat.blt pc 35) (cond (Nat.beq pc 32) (some (.invokevirtual 115, 35)) none) (cond (Nat.beq pc 35) (some (.ireturn, 36)) none)))) (cond (Nat.blt pc 41) (cond (Nat.blt pc 37) (cond (Nat.beq pc 36) (some (.aload_n 0, 37)) none) (cond (Nat.blt pc 38) (cond (Nat.beq pc 37) (some (.iload_n 1, 38)) none) (cond (Nat.beq pc 38) (some (.invokevirtual 126, 41)) none))) (cond (Nat.blt pc 45) (cond (Nat.blt pc 44) (cond (Nat.beq pc 41) (some (.ifCond .ne 9, 50)) none) (cond (Nat.beq pc 44) (some (.aload_n 0, 45)) none)) (cond (Nat.blt pc 46) (cond (Nat.beq pc 45) (some (.iconst 2, 46)) none) (cond (Nat.beq pc 46) (some (.invokevirtual 115, 49)) none)))))) (cond (Nat.blt pc 75) (cond (Nat.blt pc 62) (cond (Nat.blt pc 54) (cond (Nat.blt pc 50) (cond (Nat.beq pc 49) (some (.ireturn, 50)) none) (cond (Nat.blt pc 51) (cond (Nat.beq pc 50) (some (.iload_n 2, 51)) none) (cond (Nat.beq pc 51) (some (.ifCond .lt 15, 66)) none))) (cond (Nat.blt pc 56) (cond (Nat.blt pc 55) (cond (Nat.beq pc 54) (some (.iload_n 2, 55)) none) (cond (Nat.beq pc 55) (some (.aload_n 0, 56)) none)) (cond (Nat.blt pc 59) (cond (Nat.beq pc 56) (some (.getfield 7, 59)) none) (cond (Nat.beq pc 59) (some (.if_icmp .ge 7, 66)) none)))) (cond (Nat.blt pc 67) (cond (Nat.blt pc 63) (cond (Nat.beq pc 62) (some (.iconst 1, 63)) none) (cond (Nat.blt pc 66) (cond (Nat.beq pc 63) (some (.goto 4, 67)) none) (cond (Nat.beq pc 66) (some (.iconst 0, 67)) none))) (cond (Nat.blt pc 71) (cond (Nat.blt pc 69) (cond (Nat.beq pc 67) (some (.istore 4, 69)) none) (cond (Nat.beq pc 69) (some (.iload 4, 71)) none)) (cond (Nat.blt pc 74) (cond (Nat.beq pc 71) (some (.ifCond .ne 20, 91)) none) (cond (Nat.beq pc 74) (some (.iload_n 2, 75)) none))))) (cond (Nat.blt pc 87) (cond (Nat.blt pc 79) (cond (Nat.blt pc 77) (cond (Nat.beq pc 75) (some (.bipush 100, 77)) none) (cond (Nat.blt pc 78) (cond (Nat.beq pc 77) (some (.isub, 78)) none) (cond (Nat.beq pc 78) (some (.iconst 3, 79)) none))) (cond (Nat.blt pc 85) (cond (Nat.blt pc 82) (cond (Nat.beq pc 79) (some (.invokestatic 119, 82)) none) (cond (Nat.beq pc 82) (some (.ifCond .ne 9, 91)) none)) (cond (Nat.blt pc 86) (cond (Nat.beq pc 85) (some (.aload_n 0, 86)) none) (cond (Nat.beq pc 86) (some (.iconst 2, 87)) none)))) (cond (Nat.blt pc 93) (cond (Nat.blt pc 90) (cond (Nat.beq pc 87) (some (.invokevirtual 115, 90)) none) (cond (Nat.blt pc 91) (cond (Nat.beq pc 90) (some (.ireturn, 91)) none) (cond (Nat.beq pc 91) (some (.iload 4, 93)) none))) (cond (Nat.blt pc 97) (cond (Nat.blt pc 96) (cond (Nat.beq pc 93) (some (.ifCond .eq 48, 141)) none) (cond (Nat.beq pc 96) (some (.iload_n 2, 97)) none)) (cond (Nat.blt pc 98) (cond (Nat.beq pc 97) (some (.aload_n 0, 98)) none) (cond (Nat.beq pc 98) (some (.getfield 23, 101)) none))))))) (cond (Nat.blt pc 145) (cond (Nat.blt pc 122) (cond (Nat.blt pc 111) (cond (Nat.blt pc 106) (cond (Nat.blt pc 102) (cond (Nat.beq pc 101) (some (.iload_n 1, 102)) none) (cond (Nat.blt pc 103) (cond (Nat.beq pc 102) (some (.iaload, 103)) none) (cond (Nat.beq pc 103) (some (.if_icmp .eq 32, 135)) none))) (cond (Nat.blt pc 107) (cond (Nat.beq pc 106) (some (.aload_n 0, 107)) none) (cond (Nat.blt pc 110) (cond (Nat.beq pc 107) (some (.getfield 17, 110)) none) (cond (Nat.beq pc 110) (some (.iload_n 2, 111)) none)))) (cond (Nat.blt pc 116) (cond (Nat.blt pc 112) (cond (Nat.beq pc 111) (some (.iaload, 112)) none) (cond (Nat.blt pc 113) (cond (Nat.beq pc 112) (some (.aload_n 0, 113)) none) (cond (Nat.beq pc 113) (some (.getfield 17, 116)) none))) (cond (Nat.blt pc 120) (cond (Nat.blt pc 117) (cond (Nat.beq pc 116) (some (.aload_n 0, 117)) none) (cond (Nat.beq pc 117) (some (.getfield 23, 120)) none)) (cond (Nat.blt pc 121) (cond (Nat.beq pc 120) (some (.iload_n 1, 121)) none) (cond (Nat.beq pc 121) (some (.iaload, 122)) none))))) (cond (Nat.blt pc 136) (cond (Nat.blt pc 127) (cond (Nat.blt pc 123) (cond (Nat.beq pc 122) (some (.iaload, 123)) none) (cond (Nat.blt pc 126) (cond (Nat.beq pc 123) (some (.if_icmp .ne 12, 135)) none) (cond (Nat.beq pc 126) (some (.iload_n 3, 127)) none))) (cond (Nat.blt pc 132) (cond (Nat.blt pc 129) (cond (Nat.beq pc 127) (some (.bipush 9, 129)) none) (cond (Nat.beq pc 129) (some (.invokestatic 119, 132)) none)) (cond (Nat.blt pc 135) (cond (Nat.beq pc 132) (some (.ifCond .ne 9, 141)) none) (cond (Nat.beq pc 135) (some (.aload_n 0, 136)) none)))) (cond (Nat.blt pc 141) (cond (Nat.blt pc 137) (cond (Nat.beq pc 136) (some (.iconst 2, 137)) none) (cond (Nat.blt pc 140) (cond (Nat.beq pc 137) (some (.invokevirtual 115, 140)) none) (cond (Nat.beq pc 140) (some (.ireturn, 141)) none))) (cond (Nat.blt pc 143) (cond (Nat.blt pc 142) (cond (Nat.beq pc 141) (some (.iconst 2, 142)) none) (cond (Nat.beq pc 142) (some (.iload_n 1, 143)) none)) (cond (Nat.blt pc 144) (cond (Nat.beq pc 143) (some (.imul, 144)) none) (cond (Nat.beq pc 144) (some (.aload_n 0, 145)) none)))))) (cond (Nat.blt pc 168) (cond (Nat.blt pc 157) (cond (Nat.blt pc 150) (cond (Nat.blt pc 148) (cond (Nat.beq pc 145) (some (.getfield 30, 148)) none) (cond (Nat.blt pc 149) (cond (Nat.beq pc 148) (some (.iload_n 1, 149)) none) (cond (Nat.beq pc 149) (some (.iaload, 150)) none))) (cond (Nat.blt pc 153) (cond (Nat.blt pc 151) (cond (Nat.beq pc 150) (some (.iadd, 151)) none) (cond (Nat.beq pc 151) (some (.istore 5, 153)) none)) (cond (Nat.blt pc 154) (cond (Nat.beq pc 153) (some (.aload_n 0, 154)) none) (cond (Nat.beq pc 154) (some (.getfield 33, 157)) none)))) (cond (Nat.blt pc 161) (cond (Nat.blt pc 159) (cond (Nat.beq pc 157) (some (.iload 5, 159)) none) (cond (Nat.blt pc 160) (cond (Nat.beq pc 159) (some (.iload_n 2, 160)) none) (cond (Nat.beq pc 160) (some (.iastore, 161)) none))) (cond (Nat.blt pc 165) (cond (Nat.blt pc 162) (cond (Nat.beq pc 161) (some (.aload_n 0, 162)) none) (cond (Nat.beq pc 162) (some (.getfield 36, 165)) none)) (cond (Nat.blt pc 167) (cond (Nat.beq pc 165) (some (.iload 5, 167)) none) (cond (Nat.beq pc 167) (some (.iload_n 3, 168)) none))))) (cond (Nat.blt pc 177) (cond (Nat.blt pc 173) (cond (Nat.blt pc 169) (cond (Nat.beq pc 168) (some (.iastore, 169)) none) (cond (Nat.blt pc 170) (cond (Nat.beq pc 169) (some (.aload_n 0, 170)) none) (cond (Nat.beq pc 170) (some (.getfield 30, 173)) none))) (cond (Nat.blt pc 175) (cond (Nat.blt pc 174) (cond (Nat.beq pc 173) (some (.iload_n 1, 174)) none) (cond (Nat.beq pc 174) (some (.dup2, 175)) none)) (cond (Nat.blt pc 176) (cond (Nat.beq pc 175) (some (.iaload, 176)) none) (cond (Nat.beq pc 176) (some (.iconst 1, 177)) none)))) (cond (Nat.blt pc 180) (cond (Nat.blt pc 178) (cond (Nat.beq pc 177) (some (.iadd, 178)) none) (cond (Nat.blt pc 179) (cond (Nat.beq pc 178) (some (.iastore, 179)) none) (cond (Nat.beq pc 179) (some (.aload_n 0, 180)) none))) (cond (Nat.blt pc 184) (cond (Nat.blt pc 183) (cond (Nat.beq pc 180) (some (.getfield 30, 183)) none) (cond (Nat.beq pc 183) (some (.iload_n 1, 184)) none)) (cond (Nat.blt pc 185) (cond (Nat.beq pc 184) (some (.iaload, 185)) none) (cond (Nat.beq pc 185) (some (.ireturn, 186)) none)))))))) none
-- CaseDeskModel.when(IIII)V
def xc_75 : Nat → Option (Instr × Nat) := fun pc => cond (Nat.blt pc 78) (cond (Nat.blt pc 43) (cond (Nat.blt pc 19) (cond (Nat.blt pc 9) (cond (Nat.blt pc 2) (cond (Nat.blt pc 1) (cond (Nat.beq pc 0) (some (.aload_n 0, 1)) none) (cond (Nat.beq pc 1) (some (.iconst 0, 2)) none)) (cond (Nat.blt pc 5) (cond (Nat.beq pc 2) (some (.putfield 108, 5)) none) (cond (Nat.blt pc 6) (cond (Nat.beq pc 5) (some (.aload_n 0, 6)) none) (cond (Nat.beq pc 6) (some (.getfield 111, 9)) none)))) (cond (Nat.blt pc 14) (cond (Nat.blt pc 12) (cond (Nat.beq pc 9) (some (.ifCond .eq 9, 18)) none) (cond (Nat.blt pc 13) (cond (Nat.beq pc 12) (some (.aload_n 0, 13)) none) (cond (Nat.beq pc 13) (some (.iconst 1, 14)) none))) (cond (Nat.blt pc 17) (cond (Nat.beq pc 14) (some (.putfield 108, 17)) none) (cond (Nat.blt pc 18) (cond (Nat.beq pc 17) (some (.return_, 18)) none) (cond (Nat.beq pc 18) (some (.aload_n 0, 19)) none))))) (cond (Nat.blt pc 31) (cond (Nat.blt pc 26) (cond (Nat.blt pc 20) (cond (Nat.beq pc 19) (some (.iload_n 1, 20)) none) (cond (Nat.blt pc 23) (cond (Nat.beq pc 20) (some (.invokevirtual 126, 23)) none) (cond (Nat.beq pc 23) (some (.ifCond .eq 19, 42)) none))) (cond (Nat.blt pc 27) (cond (Nat.beq pc 26) (some (.iload_n 2, 27)) none) (cond (Nat.blt pc 28) (cond (Nat.beq pc 27) (some (.iconst 3, 28)) none) (cond (Nat.beq pc 28) (some (.invokestatic 119, 31)) none)))) (cond (Nat.blt pc 36) (cond (Nat.blt pc 34) (cond (Nat.beq pc 31) (some (.ifCond .eq 11, 42)) none) (cond (Nat.blt pc 35) (cond (Nat.beq pc 34) (some (.iload_n 3, 35)) none) (cond (Nat.beq pc 35) (some (.iconst 2, 36)) none))) (cond (Nat.blt pc 39) (cond (Nat.beq pc 36) (some (.invokestatic 119, 39)) none) (cond (Nat.blt pc 42) (cond (Nat.beq pc 39) (some (.ifCond .ne 9, 48)) none) (cond (Nat.beq pc 42) (some (.aload_n 0, 43)) none)))))) (cond (Nat.blt pc 61) (cond (Nat.blt pc 53) (cond (Nat.blt pc 48) (cond (Nat.blt pc 44) (cond (Nat.beq pc 43) (some (.iconst 2, 44)) none) (cond (Nat.blt pc 47) (cond (Nat.beq pc 44) (some (.putfield 108, 47)) none) (cond (Nat.beq pc 47) (some (.return_, 48)) none))) (cond (Nat.blt pc 49) (cond (Nat.beq pc 48) (some (.aload_n 0, 49)) none) (cond (Nat.blt pc 52) (cond (Nat.beq pc 49) (some (.getfield 39, 52)) none) (cond (Nat.beq pc 52) (some (.iload_n 1, 53)) none)))) (cond (Nat.blt pc 56) (cond (Nat.blt pc 54) (cond (Nat.beq pc 53) (some (.iconst 1, 54)) none) (cond (Nat.blt pc 55) (cond (Nat.beq pc 54) (some (.bastore, 55)) none) (cond (Nat.beq pc 55) (some (.aload_n 0, 56)) none))) (cond (Nat.blt pc 59) (cond (Nat.beq pc 56) (some (.getfield 42, 59)) none) (cond (Nat.blt pc 60) (cond (Nat.beq pc 59) (some (.iload_n 1, 60)) none) (cond (Nat.beq pc 60) (some (.iload_n 2, 61)) none))))) (cond (Nat.blt pc 69) (cond (Nat.blt pc 66) (cond (Nat.blt pc 62) (cond (Nat.beq pc 61) (some (.iastore, 62)) none) (cond (Nat.blt pc 63) (cond (Nat.beq pc 62) (some (.aload_n 0, 63)) none) (cond (Nat.beq pc 63) (some (.getfield 45, 66)) none))) (cond (Nat.blt pc 67) (cond (Nat.beq pc 66) (some (.iload_n 1, 67)) none) (cond (Nat.blt pc 68) (cond (Nat.beq pc 67) (some (.iload_n 3, 68)) none) (cond (Nat.beq pc 68) (some (.iastore, 69)) none)))) (cond (Nat.blt pc 74) (cond (Nat.blt pc 70) (cond (Nat.beq pc 69) (some (.aload_n 0, 70)) none) (cond (Nat.blt pc 73) (cond (Nat.beq pc 70) (some (.getfield 48, 73)) none) (cond (Nat.beq pc 73) (some (.iload_n 1, 74)) none))) (cond (Nat.blt pc 76) (cond (Nat.beq pc 74) (some (.iload 4, 76)) none) (cond (Nat.blt pc 77) (cond (Nat.beq pc 76) (some (.iastore, 77)) none) (cond (Nat.beq pc 77) (some (.return_, 78)) none))))))) none
-- CaseDeskModel.isFinal(I)Z
def xc_76 : Nat → Option (Instr × Nat) := fun pc => cond (Nat.blt pc 26) (cond (Nat.blt pc 14) (cond (Nat.blt pc 6) (cond (Nat.blt pc 4) (cond (Nat.blt pc 1) (cond (Nat.beq pc 0) (some (.aload_n 0, 1)) none) (cond (Nat.beq pc 1) (some (.getfield 57, 4)) none)) (cond (Nat.blt pc 5) (cond (Nat.beq pc 4) (some (.iload_n 1, 5)) none) (cond (Nat.beq pc 5) (some (.iaload, 6)) none))) (cond (Nat.blt pc 10) (cond (Nat.blt pc 7) (cond (Nat.beq pc 6) (some (.iconst 4, 7)) none) (cond (Nat.beq pc 7) (some (.if_icmp .eq 13, 20)) none)) (cond (Nat.blt pc 11) (cond (Nat.beq pc 10) (some (.aload_n 0, 11)) none) (cond (Nat.beq pc 11) (some (.getfield 57, 14)) none)))) (cond (Nat.blt pc 20) (cond (Nat.blt pc 16) (cond (Nat.blt pc 15) (cond (Nat.beq pc 14) (some (.iload_n 1, 15)) none) (cond (Nat.beq pc 15) (some (.iaload, 16)) none)) (cond (Nat.blt pc 17) (cond (Nat.beq pc 16) (some (.iconst 5, 17)) none) (cond (Nat.beq pc 17) (some (.if_icmp .ne 7, 24)) none))) (cond (Nat.blt pc 24) (cond (Nat.blt pc 21) (cond (Nat.beq pc 20) (some (.iconst 1, 21)) none) (cond (Nat.beq pc 21) (some (.goto 4, 25)) none)) (cond (Nat.blt pc 25) (cond (Nat.beq pc 24) (some (.iconst 0, 25)) none) (cond (Nat.beq pc 25) (some (.ireturn, 26)) none))))) none
-- CaseDeskModel.kindOf(I)I
def xc_77 : Nat → Option (Instr × Nat) := fun pc => cond (Nat.blt pc 12) (cond (Nat.blt pc 8) (cond (Nat.blt pc 4) (cond (Nat.blt pc 1) (cond (Nat.beq pc 0) (some (.aload_n 0, 1)) none) (cond (Nat.beq pc 1) (some (.getfield 13, 4)) none)) (cond (Nat.blt pc 5) (cond (Nat.beq pc 4) (some (.aload_n 0, 5)) none) (cond (Nat.beq pc 5) (some (.getfield 51, 8)) none))) (cond (Nat.blt pc 10) (cond (Nat.blt pc 9) (cond (Nat.beq pc 8) (some (.iload_n 1, 9)) none) (cond (Nat.beq pc 9) (some (.iaload, 10)) none)) (cond (Nat.blt pc 11) (cond (Nat.beq pc 10) (some (.iaload, 11)) none) (cond (Nat.beq pc 11) (some (.ireturn, 12)) none)))) none
-- CaseDeskModel.hasFlag(II)Z
def xc_78 : Nat → Option (Instr × Nat) := fun pc => cond (Nat.blt pc 22) (cond (Nat.blt pc 11) (cond (Nat.blt pc 5) (cond (Nat.blt pc 1) (cond (Nat.beq pc 0) (some (.aload_n 0, 1)) none) (cond (Nat.blt pc 4) (cond (Nat.beq pc 1) (some (.getfield 20, 4)) none) (cond (Nat.beq pc 4) (some (.aload_n 0, 5)) none))) (cond (Nat.blt pc 9) (cond (Nat.blt pc 8) (cond (Nat.beq pc 5) (some (.getfield 51, 8)) none) (cond (Nat.beq pc 8) (some (.iload_n 1, 9)) none)) (cond (Nat.blt pc 10) (cond (Nat.beq pc 9) (some (.iaload, 10)) none) (cond (Nat.beq pc 10) (some (.iaload, 11)) none)))) (cond (Nat.blt pc 16) (cond (Nat.blt pc 12) (cond (Nat.beq pc 11) (some (.iload_n 2, 12)) none) (cond (Nat.blt pc 13) (cond (Nat.beq pc 12) (some (.iand, 13)) none) (cond (Nat.beq pc 13) (some (.ifCond .eq 7, 20)) none))) (cond (Nat.blt pc 20) (cond (Nat.blt pc 17) (cond (Nat.beq pc 16) (some (.iconst 1, 17)) none) (cond (Nat.beq pc 17) (some (.goto 4, 21)) none)) (cond (Nat.blt pc 21) (cond (Nat.beq pc 20) (some (.iconst 0, 21)) none) (cond (Nat.beq pc 21) (some (.ireturn, 22)) none))))) none
-- CaseDeskModel.hasEntry(I)Z
def xc_79 : Nat → Option (Instr × Nat) := fun pc => cond (Nat.blt pc 54) (cond (Nat.blt pc 26) (cond (Nat.blt pc 12) (cond (Nat.blt pc 4) (cond (Nat.blt pc 2) (cond (Nat.blt pc 1) (cond (Nat.beq pc 0) (some (.iconst 0, 1)) none) (cond (Nat.beq pc 1) (some (.istore_n 2, 2)) none)) (cond (Nat.blt pc 3) (cond (Nat.beq pc 2) (some (.iconst 0, 3)) none) (cond (Nat.beq pc 3) (some (.istore_n 3, 4)) none))) (cond (Nat.blt pc 6) (cond (Nat.blt pc 5) (cond (Nat.beq pc 4) (some (.iload_n 3, 5)) none) (cond (Nat.beq pc 5) (some (.aload_n 0, 6)) none)) (cond (Nat.blt pc 9) (cond (Nat.beq pc 6) (some (.getfield 123, 9)) none) (cond (Nat.beq pc 9) (some (.if_icmp .ge 43, 52)) none)))) (cond (Nat.blt pc 20) (cond (Nat.blt pc 16) (cond (Nat.blt pc 13) (cond (Nat.beq pc 12) (some (.iload_n 2, 13)) none) (cond (Nat.beq pc 13) (some (.ifCond .ne 27, 40)) none)) (cond (Nat.blt pc 17) (cond (Nat.beq pc 16) (some (.aload_n 0, 17)) none) (cond (Nat.beq pc 17) (some (.getfield 23, 20)) none))) (cond (Nat.blt pc 22) (cond (Nat.blt pc 21) (cond (Nat.beq pc 20) (some (.iload_n 3, 21)) none) (cond (Nat.beq pc 21) (some (.iaload, 22)) none)) (cond (Nat.blt pc 23) (cond (Nat.beq pc 22) (some (.aload_n 0, 23)) none) (cond (Nat.beq pc 23) (some (.getfield 51, 26)) none))))) (cond (Nat.blt pc 40) (cond (Nat.blt pc 32) (cond (Nat.blt pc 28) (cond (Nat.blt pc 27) (cond (Nat.beq pc 26) (some (.iload_n 1, 27)) none) (cond (Nat.beq pc 27) (some (.iaload, 28)) none)) (cond (Nat.blt pc 31) (cond (Nat.beq pc 28) (some (.if_icmp .ne 16, 44)) none) (cond (Nat.beq pc 31) (some (.aload_n 0, 32)) none))) (cond (Nat.blt pc 36) (cond (Nat.blt pc 35) (cond (Nat.beq pc 32) (some (.getfield 26, 35)) none) (cond (Nat.beq pc 35) (some (.iload_n 3, 36)) none)) (cond (Nat.blt pc 37) (cond (Nat.beq pc 36) (some (.baload, 37)) none) (cond (Nat.beq pc 37) (some (.ifCond .ne 7, 44)) none)))) (cond (Nat.blt pc 46) (cond (Nat.blt pc 44) (cond (Nat.blt pc 41) (cond (Nat.beq pc 40) (some (.iconst 1, 41)) none) (cond (Nat.beq pc 41) (some (.goto 4, 45)) none)) (cond (Nat.blt pc 45) (cond (Nat.beq pc 44) (some (.iconst 0, 45)) none) (cond (Nat.beq pc 45) (some (.istore_n 2, 46)) none))) (cond (Nat.blt pc 52) (cond (Nat.blt pc 49) (cond (Nat.beq pc 46) (some (.iinc 3 1, 49)) none) (cond (Nat.beq pc 49) (some (.goto (-45), 4)) none)) (cond (Nat.blt pc 53) (cond (Nat.beq pc 52) (some (.iload_n 2, 53)) none) (cond (Nat.beq pc 53) (some (.ireturn, 54)) none)))))) none
-- CaseDeskModel.parentActive(I)Z
def xc_80 : Nat → Option (Instr × Nat) := fun pc => cond (Nat.blt pc 30) (cond (Nat.blt pc 17) (cond (Nat.blt pc 6) (cond (Nat.blt pc 4) (cond (Nat.blt pc 1) (cond (Nat.beq pc 0) (some (.aload_n 0, 1)) none) (cond (Nat.beq pc 1) (some (.getfield 54, 4)) none)) (cond (Nat.blt pc 5) (cond (Nat.beq pc 4) (some (.iload_n 1, 5)) none) (cond (Nat.beq pc 5) (some (.iaload, 6)) none))) (cond (Nat.blt pc 10) (cond (Nat.blt pc 9) (cond (Nat.beq pc 6) (some (.ifCond .lt 22, 28)) none) (cond (Nat.beq pc 9) (some (.aload_n 0, 10)) none)) (cond (Nat.blt pc 13) (cond (Nat.beq pc 10) (some (.getfield 57, 13)) none) (cond (Nat.blt pc 14) (cond (Nat.beq pc 13) (some (.aload_n 0, 14)) none) (cond (Nat.beq pc 14) (some (.getfield 54, 17)) none))))) (cond (Nat.blt pc 21) (cond (Nat.blt pc 19) (cond (Nat.blt pc 18) (cond (Nat.beq pc 17) (some (.iload_n 1, 18)) none) (cond (Nat.beq pc 18) (some (.iaload, 19)) none)) (cond (Nat.blt pc 20) (cond (Nat.beq pc 19) (some (.iaload, 20)) none) (cond (Nat.beq pc 20) (some (.iconst 2, 21)) none))) (cond (Nat.blt pc 25) (cond (Nat.blt pc 24) (cond (Nat.beq pc 21) (some (.if_icmp .ne 7, 28)) none) (cond (Nat.beq pc 24) (some (.iconst 1, 25)) none)) (cond (Nat.blt pc 28) (cond (Nat.beq pc 25) (some (.goto 4, 29)) none) (cond (Nat.blt pc 29) (cond (Nat.beq pc 28) (some (.iconst 0, 29)) none) (cond (Nat.beq pc 29) (some (.ireturn, 30)) none)))))) none
-- CaseDeskModel.book(II)Z
def xc_81 : Nat → Option (Instr × Nat) := fun pc => cond (Nat.blt pc 76) (cond (Nat.blt pc 41) (cond (Nat.blt pc 20) (cond (Nat.blt pc 12) (cond (Nat.blt pc 5) (cond (Nat.blt pc 1) (cond (Nat.beq pc 0) (some (.aload_n 0, 1)) none) (cond (Nat.blt pc 4) (cond (Nat.beq pc 1) (some (.getfield 130, 4)) none) (cond (Nat.beq pc 4) (some (.aload_n 0, 5)) none))) (cond (Nat.blt pc 8) (cond (Nat.beq pc 5) (some (.getfield 133, 8)) none) (cond (Nat.blt pc 11) (cond (Nat.beq pc 8) (some (.if_icmp .ne 10, 18)) none) (cond (Nat.beq pc 11) (some (.aload_n 0, 12)) none)))) (cond (Nat.blt pc 17) (cond (Nat.blt pc 13) (cond (Nat.beq pc 12) (some (.iconst 1, 13)) none) (cond (Nat.blt pc 16) (cond (Nat.beq pc 13) (some (.putfield 136, 16)) none) (cond (Nat.beq pc 16) (some (.iconst 0, 17)) none))) (cond (Nat.blt pc 18) (cond (Nat.beq pc 17) (some (.ireturn, 18)) none) (cond (Nat.blt pc 19) (cond (Nat.beq pc 18) (some (.aload_n 0, 19)) none) (cond (Nat.beq pc 19) (some (.dup, 20)) none))))) (cond (Nat.blt pc 32) (cond (Nat.blt pc 25) (cond (Nat.blt pc 23) (cond (Nat.beq pc 20) (some (.getfield 130, 23)) none) (cond (Nat.blt pc 24) (cond (Nat.beq pc 23) (some (.iconst 1, 24)) none) (cond (Nat.beq pc 24) (some (.iadd, 25)) none))) (cond (Nat.blt pc 28) (cond (Nat.beq pc 25) (some (.putfield 130, 28)) none) (cond (Nat.blt pc 29) (cond (Nat.beq pc 28) (some (.aload_n 0, 29)) none) (cond (Nat.beq pc 29) (some (.getfield 69, 32)) none)))) (cond (Nat.blt pc 38) (cond (Nat.blt pc 33) (cond (Nat.beq pc 32) (some (.aload_n 0, 33)) none) (cond (Nat.blt pc 36) (cond (Nat.beq pc 33) (some (.getfield 139, 36)) none) (cond (Nat.beq pc 36) (some (.bipush 48, 38)) none))) (cond (Nat.blt pc 39) (cond (Nat.beq pc 38) (some (.irem, 39)) none) (cond (Nat.blt pc 40) (cond (Nat.beq pc 39) (some (.iload_n 1, 40)) none) (cond (Nat.beq pc 40) (some (.iastore, 41)) none)))))) (cond (Nat.blt pc 60) (cond (Nat.blt pc 52) (cond (Nat.blt pc 46) (cond (Nat.blt pc 42) (cond (Nat.beq pc 41) (some (.aload_n 0, 42)) none) (cond (Nat.blt pc 45) (cond (Nat.beq pc 42) (some (.getfield 72, 45)) none) (cond (Nat.beq pc 45) (some (.aload_n 0, 46)) none))) (cond (Nat.blt pc 49) (cond (Nat.beq pc 46) (some (.getfield 139, 49)) none) (cond (Nat.blt pc 51) (cond (Nat.beq pc 49) (some (.bipush 48, 51)) none) (cond (Nat.beq pc 51) (some (.irem, 52)) none)))) (cond (Nat.blt pc 55) (cond (Nat.blt pc 53) (cond (Nat.beq pc 52) (some (.iload_n 2, 53)) none) (cond (Nat.blt pc 54) (cond (Nat.beq pc 53) (some (.iastore, 54)) none) (cond (Nat.beq pc 54) (some (.aload_n 0, 55)) none))) (cond (Nat.blt pc 56) (cond (Nat.beq pc 55) (some (.dup, 56)) none) (cond (Nat.blt pc 59) (cond (Nat.beq pc 56) (some (.getfield 139, 59)) none) (cond (Nat.beq pc 59) (some (.iconst 1, 60)) none))))) (cond (Nat.blt pc 70) (cond (Nat.blt pc 65) (cond (Nat.blt pc 61) (cond (Nat.beq pc 60) (some (.iadd, 61)) none) (cond (Nat.blt pc 64) (cond (Nat.beq pc 61) (some (.putfield 139, 64)) none) (cond (Nat.beq pc 64) (some (.aload_n 0, 65)) none))) (cond (Nat.blt pc 68) (cond (Nat.beq pc 65) (some (.getfield 60, 68)) none) (cond (Nat.blt pc 69) (cond (Nat.beq pc 68) (some (.iload_n 1, 69)) none) (cond (Nat.beq pc 69) (some (.dup2, 70)) none)))) (cond (Nat.blt pc 73) (cond (Nat.blt pc 71) (cond (Nat.beq pc 70) (some (.iaload, 71)) none) (cond (Nat.blt pc 72) (cond (Nat.beq pc 71) (some (.iconst 1, 72)) none) (cond (Nat.beq pc 72) (some (.iadd, 73)) none))) (cond (Nat.blt pc 74) (cond (Nat.beq pc 73) (some (.iastore, 74)) none) (cond (Nat.blt pc 75) (cond (Nat.beq pc 74) (some (.iconst 1, 75)) none) (cond (Nat.beq pc 75) (some (.ireturn, 76)) none))))))) none
-- CaseDeskModel.mark(II)V
def xc_82 : Nat → Option (Instr × Nat) := fun pc => cond (Nat.blt pc 159) (cond (Nat.blt pc 78) (cond (Nat.blt pc 35) (cond (Nat.blt pc 16) (cond (Nat.blt pc 7) (cond (Nat.blt pc 2) (cond (Nat.blt pc 1) (cond (Nat.beq pc 0) (some (.iconst 0, 1)) none) (cond (Nat.beq pc 1) (some (.istore_n 3, 2)) none)) (cond (Nat.blt pc 3) (cond (Nat.beq pc 2) (some (.iload_n 3, 3)) none) (cond (Nat.blt pc 4) (cond (Nat.beq pc 3) (some (.aload_n 0, 4)) none) (cond (Nat.beq pc 4) (some (.getfield 142, 7)) none)))) (cond (Nat.blt pc 11) (cond (Nat.blt pc 10) (cond (Nat.beq pc 7) (some (.if_icmp .ge 151, 158)) none) (cond (Nat.beq pc 10) (some (.iload_n 3, 11)) none)) (cond (Nat.blt pc 12) (cond (Nat.beq pc 11) (some (.iload_n 1, 12)) none) (cond (Nat.blt pc 15) (cond (Nat.beq pc 12) (some (.if_icmp .eq 140, 152)) none) (cond (Nat.beq pc 15) (some (.aload_n 0, 16)) none))))) (cond (Nat.blt pc 25) (cond (Nat.blt pc 20) (cond (Nat.blt pc 19) (cond (Nat.beq pc 16) (some (.getfield 54, 19)) none) (cond (Nat.beq pc 19) (some (.iload_n 3, 20)) none)) (cond (Nat.blt pc 21) (cond (Nat.beq pc 20) (some (.iaload, 21)) none) (cond (Nat.blt pc 22) (cond (Nat.beq pc 21) (some (.aload_n 0, 22)) none) (cond (Nat.beq pc 22) (some (.getfield 54, 25)) none)))) (cond (Nat.blt pc 30) (cond (Nat.blt pc 26) (cond (Nat.beq pc 25) (some (.iload_n 1, 26)) none) (cond (Nat.blt pc 27) (cond (Nat.beq pc 26) (some (.iaload, 27)) none) (cond (Nat.beq pc 27) (some (.if_icmp .ne 125, 152)) none))) (cond (Nat.blt pc 31) (cond (Nat.beq pc 30) (some (.aload_n 0, 31)) none) (cond (Nat.blt pc 32) (cond (Nat.beq pc 31) (some (.iload_n 3, 32)) none) (cond (Nat.beq pc 32) (some (.invokevirtual 145, 35)) none)))))) (cond (Nat.blt pc 59) (cond (Nat.blt pc 46) (cond (Nat.blt pc 41) (cond (Nat.blt pc 38) (cond (Nat.beq pc 35) (some (.ifCond .eq 6, 41)) none) (cond (Nat.beq pc 38) (some (.goto 114, 152)) none)) (cond (Nat.blt pc 42) (cond (Nat.beq pc 41) (some (.iconst 0, 42)) none) (cond (Nat.blt pc 44) (cond (Nat.beq pc 42) (some (.istore 4, 44)) none) (cond (Nat.beq pc 44) (some (.iload 4, 46)) none)))) (cond (Nat.blt pc 53) (cond (Nat.blt pc 47) (cond (Nat.beq pc 46) (some (.aload_n 0, 47)) none) (cond (Nat.blt pc 50) (cond (Nat.beq pc 47) (some (.getfield 123, 50)) none) (cond (Nat.beq pc 50) (some (.if_icmp .ge 102, 152)) none))) (cond (Nat.blt pc 54) (cond (Nat.beq pc 53) (some (.aload_n 0, 54)) none) (cond (Nat.blt pc 57) (cond (Nat.beq pc 54) (some (.getfield 23, 57)) none) (cond (Nat.beq pc 57) (some (.iload 4, 59)) none))))) (cond (Nat.blt pc 66) (cond (Nat.blt pc 61) (cond (Nat.blt pc 60) (cond (Nat.beq pc 59) (some (.iaload, 60)) none) (cond (Nat.beq pc 60) (some (.aload_n 0, 61)) none)) (cond (Nat.blt pc 64) (cond (Nat.beq pc 61) (some (.getfield 51, 64)) none) (cond (Nat.blt pc 65) (cond (Nat.beq pc 64) (some (.iload_n 3, 65)) none) (cond (Nat.beq pc 65) (some (.iaload, 66)) none)))) (cond (Nat.blt pc 73) (cond (Nat.blt pc 69) (cond (Nat.beq pc 66) (some (.if_icmp .eq 6, 72)) none) (cond (Nat.blt pc 72) (cond (Nat.beq pc 69) (some (.goto 77, 146)) none) (cond (Nat.beq pc 72) (some (.iconst 0, 73)) none))) (cond (Nat.blt pc 75) (cond (Nat.beq pc 73) (some (.istore 5, 75)) none) (cond (Nat.blt pc 77) (cond (Nat.beq pc 75) (some (.iload 5, 77)) none) (cond (Nat.beq pc 77) (some (.aload_n 0, 78)) none))))))) (cond (Nat.blt pc 118) (cond (Nat.blt pc 97) (cond (Nat.blt pc 88) (cond (Nat.blt pc 83) (cond (Nat.blt pc 81) (cond (Nat.beq pc 78) (some (.getfield 30, 81)) none) (cond (Nat.beq pc 81) (some (.iload 4, 83)) none)) (cond (Nat.blt pc 84) (cond (Nat.beq pc 83) (some (.iaload, 84)) none) (cond (Nat.blt pc 87) (cond (Nat.beq pc 84) (some (.if_icmp .ge 62, 146)) none) (cond (Nat.beq pc 87) (some (.iconst 2, 88)) none)))) (cond (Nat.blt pc 93) (cond (Nat.blt pc 90) (cond (Nat.beq pc 88) (some (.iload 4, 90)) none) (cond (Nat.blt pc 91) (cond (Nat.beq pc 90) (some (.imul, 91)) none) (cond (Nat.beq pc 91) (some (.iload 5, 93)) none))) (cond (Nat.blt pc 94) (cond (Nat.beq pc 93) (some (.iadd, 94)) none) (cond (Nat.blt pc 96) (cond (Nat.beq pc 94) (some (.istore 6, 96)) none) (cond (Nat.beq pc 96) (some (.aload_n 0, 97)) none))))) (cond (Nat.blt pc 107) (cond (Nat.blt pc 102) (cond (Nat.blt pc 100) (cond (Nat.beq pc 97) (some (.getfield 33, 100)) none) (cond (Nat.beq pc 100) (some (.iload 6, 102)) none)) (cond (Nat.blt pc 103) (cond (Nat.beq pc 102) (some (.iaload, 103)) none) (cond (Nat.blt pc 104) (cond (Nat.beq pc 103) (some (.aload_n 0, 104)) none) (cond (Nat.beq pc 104) (some (.getfield 51, 107)) none)))) (cond (Nat.blt pc 112) (cond (Nat.blt pc 108) (cond (Nat.beq pc 107) (some (.iload_n 1, 108)) none) (cond (Nat.blt pc 109) (cond (Nat.beq pc 108) (some (.iaload, 109)) none) (cond (Nat.beq pc 109) (some (.if_icmp .ne 31, 140)) none))) (cond (Nat.blt pc 113) (cond (Nat.beq pc 112) (some (.aload_n 0, 113)) none) (cond (Nat.blt pc 116) (cond (Nat.beq pc 113) (some (.getfield 36, 116)) none) (cond (Nat.beq pc 116) (some (.iload 6, 118)) none)))))) (cond (Nat.blt pc 135) (cond (Nat.blt pc 127) (cond (Nat.blt pc 120) (cond (Nat.blt pc 119) (cond (Nat.beq pc 118) (some (.iaload, 119)) none) (cond (Nat.beq pc 119) (some (.iload_n 2, 120)) none)) (cond (Nat.blt pc 123) (cond (Nat.beq pc 120) (some (.if_icmp .ne 20, 140)) none) (cond (Nat.blt pc 124) (cond (Nat.beq pc 123) (some (.aload_n 0, 124)) none) (cond (Nat.beq pc 124) (some (.getfield 63, 127)) none)))) (cond (Nat.blt pc 132) (cond (Nat.blt pc 128) (cond (Nat.beq pc 127) (some (.iload_n 3, 128)) none) (cond (Nat.blt pc 129) (cond (Nat.beq pc 128) (some (.aload_n 0, 129)) none) (cond (Nat.beq pc 129) (some (.getfield 63, 132)) none))) (cond (Nat.blt pc 133) (cond (Nat.beq pc 132) (some (.iload_n 3, 133)) none) (cond (Nat.blt pc 134) (cond (Nat.beq pc 133) (some (.iaload, 134)) none) (cond (Nat.beq pc 134) (some (.iconst 1, 135)) none))))) (cond (Nat.blt pc 143) (cond (Nat.blt pc 138) (cond (Nat.blt pc 137) (cond (Nat.beq pc 135) (some (.iload 6, 137)) none) (cond (Nat.beq pc 137) (some (.ishl, 138)) none)) (cond (Nat.blt pc 139) (cond (Nat.beq pc 138) (some (.ior, 139)) none) (cond (Nat.blt pc 140) (cond (Nat.beq pc 139) (some (.iastore, 140)) none) (cond (Nat.beq pc 140) (some (.iinc 5 1, 143)) none)))) (cond (Nat.blt pc 152) (cond (Nat.blt pc 146) (cond (Nat.beq pc 143) (some (.goto (-68), 75)) none) (cond (Nat.blt pc 149) (cond (Nat.beq pc 146) (some (.iinc 4 1, 149)) none) (cond (Nat.beq pc 149) (some (.goto (-105), 44)) none))) (cond (Nat.blt pc 155) (cond (Nat.beq pc 152) (some (.iinc 3 1, 155)) none) (cond (Nat.blt pc 158) (cond (Nat.beq pc 155) (some (.goto (-153), 2)) none) (cond (Nat.beq pc 158) (some (.return_, 159)) none)))))))) none
-- CaseDeskModel.create(II)V
def xc_83 : Nat → Option (Instr × Nat) := fun pc => cond (Nat.blt pc 90) (cond (Nat.blt pc 47) (cond (Nat.blt pc 27) (cond (Nat.blt pc 14) (cond (Nat.blt pc 7) (cond (Nat.blt pc 1) (cond (Nat.beq pc 0) (some (.aload_n 0, 1)) none) (cond (Nat.blt pc 4) (cond (Nat.beq pc 1) (some (.getfield 136, 4)) none) (cond (Nat.beq pc 4) (some (.ifCond .eq 4, 8)) none))) (cond (Nat.blt pc 9) (cond (Nat.blt pc 8) (cond (Nat.beq pc 7) (some (.return_, 8)) none) (cond (Nat.beq pc 8) (some (.aload_n 0, 9)) none)) (cond (Nat.blt pc 12) (cond (Nat.beq pc 9) (some (.getfield 142, 12)) none) (cond (Nat.beq pc 12) (some (.bipush 40, 14)) none)))) (cond (Nat.blt pc 19) (cond (Nat.blt pc 17) (cond (Nat.beq pc 14) (some (.if_icmp .ne 9, 23)) none) (cond (Nat.blt pc 18) (cond (Nat.beq pc 17) (some (.aload_n 0, 18)) none) (cond (Nat.beq pc 18) (some (.iconst 1, 19)) none))) (cond (Nat.blt pc 23) (cond (Nat.blt pc 22) (cond (Nat.beq pc 19) (some (.putfield 136, 22)) none) (cond (Nat.beq pc 22) (some (.return_, 23)) none)) (cond (Nat.blt pc 24) (cond (Nat.beq pc 23) (some (.aload_n 0, 24)) none) (cond (Nat.beq pc 24) (some (.getfield 142, 27)) none))))) (cond (Nat.blt pc 36) (cond (Nat.blt pc 32) (cond (Nat.blt pc 28) (cond (Nat.beq pc 27) (some (.istore_n 3, 28)) none) (cond (Nat.blt pc 29) (cond (Nat.beq pc 28) (some (.aload_n 0, 29)) none) (cond (Nat.beq pc 29) (some (.getfield 60, 32)) none))) (cond (Nat.blt pc 34) (cond (Nat.blt pc 33) (cond (Nat.beq pc 32) (some (.iload_n 3, 33)) none) (cond (Nat.beq pc 33) (some (.iconst 0, 34)) none)) (cond (Nat.blt pc 35) (cond (Nat.beq pc 34) (some (.iastore, 35)) none) (cond (Nat.beq pc 35) (some (.aload_n 0, 36)) none)))) (cond (Nat.blt pc 41) (cond (Nat.blt pc 37) (cond (Nat.beq pc 36) (some (.iload_n 3, 37)) none) (cond (Nat.blt pc 38) (cond (Nat.beq pc 37) (some (.iconst 0, 38)) none) (cond (Nat.beq pc 38) (some (.invokevirtual 148, 41)) none))) (cond (Nat.blt pc 45) (cond (Nat.blt pc 44) (cond (Nat.beq pc 41) (some (.ifCond .ne 4, 45)) none) (cond (Nat.beq pc 44) (some (.return_, 45)) none)) (cond (Nat.blt pc 46) (cond (Nat.beq pc 45) (some (.aload_n 0, 46)) none) (cond (Nat.beq pc 46) (some (.dup, 47)) none)))))) (cond (Nat.blt pc 69) (cond (Nat.blt pc 60) (cond (Nat.blt pc 52) (cond (Nat.blt pc 50) (cond (Nat.beq pc 47) (some (.getfield 142, 50)) none) (cond (Nat.blt pc 51) (cond (Nat.beq pc 50) (some (.iconst 1, 51)) none) (cond (Nat.beq pc 51) (some (.iadd, 52)) none))) (cond (Nat.blt pc 56) (cond (Nat.blt pc 55) (cond (Nat.beq pc 52) (some (.putfield 142, 55)) none) (cond (Nat.beq pc 55) (some (.aload_n 0, 56)) none)) (cond (Nat.blt pc 59) (cond (Nat.beq pc 56) (some (.getfield 51, 59)) none) (cond (Nat.beq pc 59) (some (.iload_n 3, 60)) none)))) (cond (Nat.blt pc 63) (cond (Nat.blt pc 61) (cond (Nat.beq pc 60) (some (.iload_n 1, 61)) none) (cond (Nat.blt pc 62) (cond (Nat.beq pc 61) (some (.iastore, 62)) none) (cond (Nat.beq pc 62) (some (.aload_n 0, 63)) none))) (cond (Nat.blt pc 67) (cond (Nat.blt pc 66) (cond (Nat.beq pc 63) (some (.getfield 54, 66)) none) (cond (Nat.beq pc 66) (some (.iload_n 3, 67)) none)) (cond (Nat.blt pc 68) (cond (Nat.beq pc 67) (some (.iload_n 2, 68)) none) (cond (Nat.beq pc 68) (some (.iastore, 69)) none))))) (cond (Nat.blt pc 80) (cond (Nat.blt pc 74) (cond (Nat.blt pc 70) (cond (Nat.beq pc 69) (some (.aload_n 0, 70)) none) (cond (Nat.blt pc 73) (cond (Nat.beq pc 70) (some (.getfield 57, 73)) none) (cond (Nat.beq pc 73) (some (.iload_n 3, 74)) none))) (cond (Nat.blt pc 76) (cond (Nat.blt pc 75) (cond (Nat.beq pc 74) (some (.iconst 0, 75)) none) (cond (Nat.beq pc 75) (some (.iastore, 76)) none)) (cond (Nat.blt pc 77) (cond (Nat.beq pc 76) (some (.aload_n 0, 77)) none) (cond (Nat.beq pc 77) (some (.getfield 63, 80)) none)))) (cond (Nat.blt pc 84) (cond (Nat.blt pc 82) (cond (Nat.blt pc 81) (cond (Nat.beq pc 80) (some (.iload_n 3, 81)) none) (cond (Nat.beq pc 81) (some (.iconst 0, 82)) none)) (cond (Nat.blt pc 83) (cond (Nat.beq pc 82) (some (.iastore, 83)) none) (cond (Nat.beq pc 83) (some (.aload_n 0, 84)) none))) (cond (Nat.blt pc 86) (cond (Nat.blt pc 85) (cond (Nat.beq pc 84) (some (.iload_n 3, 85)) none) (cond (Nat.beq pc 85) (some (.iconst 0, 86)) none)) (cond (Nat.blt pc 89) (cond (Nat.beq pc 86) (some (.invokevirtual 151, 89)) none) (cond (Nat.beq pc 89) (some (.return_, 90)) none))))))) none
-- CaseDeskModel.target(I)I
def xc_84 : Nat → Option (Instr × Nat) := fun pc => cond (Nat.blt pc 65) (cond (Nat.blt pc 57) (cond (Nat.blt pc 53) (cond (Nat.blt pc 1) (cond (Nat.beq pc 0) (some (.iload_n 0, 1)) none) (cond (Nat.blt pc 52) (cond (Nat.beq pc 1) (some (.tableswitch 62 1 9 #[51, 62, 53, 53, 55, 62, 57, 62, 60], 52)) none) (cond (Nat.beq pc 52) (some (.iconst 1, 53)) none))) (cond (Nat.blt pc 55) (cond (Nat.blt pc 54) (cond (Nat.beq pc 53) (some (.ireturn, 54)) none) (cond (Nat.beq pc 54) (some (.iconst 4, 55)) none)) (cond (Nat.blt pc 56) (cond (Nat.beq pc 55) (some (.ireturn, 56)) none) (cond (Nat.beq pc 56) (some (.iconst 3, 57)) none)))) (cond (Nat.blt pc 61) (cond (Nat.blt pc 58) (cond (Nat.beq pc 57) (some (.ireturn, 58)) none) (cond (Nat.blt pc 60) (cond (Nat.beq pc 58) (some (.bipush 6, 60)) none) (cond (Nat.beq pc 60) (some (.ireturn, 61)) none))) (cond (Nat.blt pc 63) (cond (Nat.blt pc 62) (cond (Nat.beq pc 61) (some (.iconst 5, 62)) none) (cond (Nat.beq pc 62) (some (.ireturn, 63)) none)) (cond (Nat.blt pc 64) (cond (Nat.beq pc 63) (some (.iconst 2, 64)) none) (cond (Nat.beq pc 64) (some (.ireturn, 65)) none))))) none
-- CaseDeskModel.enter(II)V
def xc_85 : Nat → Option (Instr × Nat) := fun pc => cond (Nat.blt pc 166) (cond (Nat.blt pc 81) (cond (Nat.blt pc 39) (cond (Nat.blt pc 19) (cond (Nat.blt pc 9) (cond (Nat.blt pc 2) (cond (Nat.blt pc 1) (cond (Nat.beq pc 0) (some (.aload_n 0, 1)) none) (cond (Nat.beq pc 1) (some (.iload_n 1, 2)) none)) (cond (Nat.blt pc 3) (cond (Nat.beq pc 2) (some (.iload_n 2, 3)) none) (cond (Nat.blt pc 6) (cond (Nat.beq pc 3) (some (.invokevirtual 148, 6)) none) (cond (Nat.beq pc 6) (some (.ifCond .ne 4, 10)) none)))) (cond (Nat.blt pc 14) (cond (Nat.blt pc 10) (cond (Nat.beq pc 9) (some (.return_, 10)) none) (cond (Nat.blt pc 11) (cond (Nat.beq pc 10) (some (.aload_n 0, 11)) none) (cond (Nat.beq pc 11) (some (.getfield 57, 14)) none))) (cond (Nat.blt pc 15) (cond (Nat.beq pc 14) (some (.iload_n 1, 15)) none) (cond (Nat.blt pc 16) (cond (Nat.beq pc 15) (some (.iload_n 2, 16)) none) (cond (Nat.beq pc 16) (some (.invokestatic 155, 19)) none))))) (cond (Nat.blt pc 27) (cond (Nat.blt pc 22) (cond (Nat.blt pc 20) (cond (Nat.beq pc 19) (some (.iastore, 20)) none) (cond (Nat.blt pc 21) (cond (Nat.beq pc 20) (some (.aload_n 0, 21)) none) (cond (Nat.beq pc 21) (some (.iload_n 1, 22)) none))) (cond (Nat.blt pc 23) (cond (Nat.beq pc 22) (some (.iload_n 2, 23)) none) (cond (Nat.blt pc 26) (cond (Nat.beq pc 23) (some (.invokevirtual 151, 26)) none) (cond (Nat.beq pc 26) (some (.aload_n 0, 27)) none)))) (cond (Nat.blt pc 34) (cond (Nat.blt pc 28) (cond (Nat.beq pc 27) (some (.iload_n 1, 28)) none) (cond (Nat.blt pc 31) (cond (Nat.beq pc 28) (some (.invokevirtual 158, 31)) none) (cond (Nat.beq pc 31) (some (.ifCond .ne 7, 38)) none))) (cond (Nat.blt pc 35) (cond (Nat.beq pc 34) (some (.iconst 1, 35)) none) (cond (Nat.blt pc 38) (cond (Nat.beq pc 35) (some (.goto 4, 39)) none) (cond (Nat.beq pc 38) (some (.iconst 0, 39)) none)))))) (cond (Nat.blt pc 61) (cond (Nat.blt pc 49) (cond (Nat.blt pc 44) (cond (Nat.blt pc 40) (cond (Nat.beq pc 39) (some (.istore_n 3, 40)) none) (cond (Nat.blt pc 41) (cond (Nat.beq pc 40) (some (.iload_n 3, 41)) none) (cond (Nat.beq pc 41) (some (.ifCond .eq 49, 90)) none))) (cond (Nat.blt pc 45) (cond (Nat.beq pc 44) (some (.iload_n 2, 45)) none) (cond (Nat.blt pc 46) (cond (Nat.beq pc 45) (some (.iconst 2, 46)) none) (cond (Nat.beq pc 46) (some (.if_icmp .ne 44, 90)) none)))) (cond (Nat.blt pc 54) (cond (Nat.blt pc 50) (cond (Nat.beq pc 49) (some (.iconst 1, 50)) none) (cond (Nat.blt pc 52) (cond (Nat.beq pc 50) (some (.istore 4, 52)) none) (cond (Nat.beq pc 52) (some (.iload 4, 54)) none))) (cond (Nat.blt pc 55) (cond (Nat.beq pc 54) (some (.aload_n 0, 55)) none) (cond (Nat.blt pc 58) (cond (Nat.beq pc 55) (some (.getfield 7, 58)) none) (cond (Nat.beq pc 58) (some (.if_icmp .ge 32, 90)) none))))) (cond (Nat.blt pc 72) (cond (Nat.blt pc 67) (cond (Nat.blt pc 62) (cond (Nat.beq pc 61) (some (.aload_n 0, 62)) none) (cond (Nat.blt pc 65) (cond (Nat.beq pc 62) (some (.getfield 17, 65)) none) (cond (Nat.beq pc 65) (some (.iload 4, 67)) none))) (cond (Nat.blt pc 68) (cond (Nat.beq pc 67) (some (.iaload, 68)) none) (cond (Nat.blt pc 69) (cond (Nat.beq pc 68) (some (.aload_n 0, 69)) none) (cond (Nat.beq pc 69) (some (.getfield 51, 72)) none)))) (cond (Nat.blt pc 77) (cond (Nat.blt pc 73) (cond (Nat.beq pc 72) (some (.iload_n 1, 73)) none) (cond (Nat.blt pc 74) (cond (Nat.beq pc 73) (some (.iaload, 74)) none) (cond (Nat.beq pc 74) (some (.if_icmp .ne 10, 84)) none))) (cond (Nat.blt pc 78) (cond (Nat.beq pc 77) (some (.aload_n 0, 78)) none) (cond (Nat.blt pc 80) (cond (Nat.beq pc 78) (some (.iload 4, 80)) none) (cond (Nat.beq pc 80) (some (.iload_n 1, 81)) none))))))) (cond (Nat.blt pc 126) (cond (Nat.blt pc 105) (cond (Nat.blt pc 94) (cond (Nat.blt pc 87) (cond (Nat.blt pc 84) (cond (Nat.beq pc 81) (some (.invokevirtual 161, 84)) none) (cond (Nat.beq pc 84) (some (.iinc 4 1, 87)) none)) (cond (Nat.blt pc 90) (cond (Nat.beq pc 87) (some (.goto (-35), 52)) none) (cond (Nat.blt pc 91) (cond (Nat.beq pc 90) (some (.iload_n 3, 91)) none) (cond (Nat.beq pc 91) (some (.ifCond .eq 68, 159)) none)))) (cond (Nat.blt pc 99) (cond (Nat.blt pc 95) (cond (Nat.beq pc 94) (some (.iload_n 2, 95)) none) (cond (Nat.blt pc 96) (cond (Nat.beq pc 95) (some (.iconst 4, 96)) none) (cond (Nat.beq pc 96) (some (.if_icmp .eq 20, 116)) none))) (cond (Nat.blt pc 100) (cond (Nat.beq pc 99) (some (.iload_n 2, 100)) none) (cond (Nat.blt pc 102) (cond (Nat.beq pc 100) (some (.bipush 9, 102)) none) (cond (Nat.beq pc 102) (some (.if_icmp .eq 14, 116)) none))))) (cond (Nat.blt pc 116) (cond (Nat.blt pc 110) (cond (Nat.blt pc 106) (cond (Nat.beq pc 105) (some (.iload_n 2, 106)) none) (cond (Nat.blt pc 107) (cond (Nat.beq pc 106) (some (.iconst 5, 107)) none) (cond (Nat.beq pc 107) (some (.if_icmp .eq 9, 116)) none))) (cond (Nat.blt pc 111) (cond (Nat.beq pc 110) (some (.iload_n 2, 111)) none) (cond (Nat.blt pc 113) (cond (Nat.beq pc 111) (some (.bipush 6, 113)) none) (cond (Nat.beq pc 113) (some (.if_icmp .ne 46, 159)) none)))) (cond (Nat.blt pc 121) (cond (Nat.blt pc 117) (cond (Nat.beq pc 116) (some (.aload_n 0, 117)) none) (cond (Nat.blt pc 120) (cond (Nat.beq pc 117) (some (.getfield 99, 120)) none) (cond (Nat.beq pc 120) (some (.aload_n 0, 121)) none))) (cond (Nat.blt pc 124) (cond (Nat.beq pc 121) (some (.getfield 164, 124)) none) (cond (Nat.blt pc 125) (cond (Nat.beq pc 124) (some (.iload_n 1, 125)) none) (cond (Nat.beq pc 125) (some (.iastore, 126)) none)))))) (cond (Nat.blt pc 146) (cond (Nat.blt pc 136) (cond (Nat.blt pc 131) (cond (Nat.blt pc 127) (cond (Nat.beq pc 126) (some (.aload_n 0, 127)) none) (cond (Nat.blt pc 130) (cond (Nat.beq pc 127) (some (.getfield 102, 130)) none) (cond (Nat.beq pc 130) (some (.aload_n 0, 131)) none))) (cond (Nat.blt pc 134) (cond (Nat.beq pc 131) (some (.getfield 164, 134)) none) (cond (Nat.blt pc 135) (cond (Nat.beq pc 134) (some (.iload_n 2, 135)) none) (cond (Nat.beq pc 135) (some (.iastore, 136)) none)))) (cond (Nat.blt pc 141) (cond (Nat.blt pc 137) (cond (Nat.beq pc 136) (some (.aload_n 0, 137)) none) (cond (Nat.blt pc 140) (cond (Nat.beq pc 137) (some (.getfield 105, 140)) none) (cond (Nat.beq pc 140) (some (.aload_n 0, 141)) none))) (cond (Nat.blt pc 144) (cond (Nat.beq pc 141) (some (.getfield 164, 144)) none) (cond (Nat.blt pc 145) (cond (Nat.beq pc 144) (some (.iconst 0, 145)) none) (cond (Nat.beq pc 145) (some (.iastore, 146)) none))))) (cond (Nat.blt pc 156) (cond (Nat.blt pc 151) (cond (Nat.blt pc 147) (cond (Nat.beq pc 146) (some (.aload_n 0, 147)) none) (cond (Nat.blt pc 148) (cond (Nat.beq pc 147) (some (.dup, 148)) none) (cond (Nat.beq pc 148) (some (.getfield 164, 151)) none))) (cond (Nat.blt pc 152) (cond (Nat.beq pc 151) (some (.iconst 1, 152)) none) (cond (Nat.blt pc 153) (cond (Nat.beq pc 152) (some (.iadd, 153)) none) (cond (Nat.beq pc 153) (some (.putfield 164, 156)) none)))) (cond (Nat.blt pc 161) (cond (Nat.blt pc 159) (cond (Nat.beq pc 156) (some (.goto 9, 165)) none) (cond (Nat.blt pc 160) (cond (Nat.beq pc 159) (some (.aload_n 0, 160)) none) (cond (Nat.beq pc 160) (some (.iload_n 1, 161)) none))) (cond (Nat.blt pc 162) (cond (Nat.beq pc 161) (some (.iload_n 2, 162)) none) (cond (Nat.blt pc 165) (cond (Nat.beq pc 162) (some (.invokevirtual 167, 165)) none) (cond (Nat.beq pc 165) (some (.return_, 166)) none)))))))) none
-- CaseDeskModel.again(II)V
def xc_86 : Nat → Option (Instr × Nat) := fun pc => cond (Nat.blt pc 52) (cond (Nat.blt pc 27) (cond (Nat.blt pc 11) (cond (Nat.blt pc 5) (cond (Nat.blt pc 1) (cond (Nat.beq pc 0) (some (.iload_n 2, 1)) none) (cond (Nat.blt pc 2) (cond (Nat.beq pc 1) (some (.iconst 3, 2)) none) (cond (Nat.beq pc 2) (some (.if_icmp .eq 8, 10)) none))) (cond (Nat.blt pc 7) (cond (Nat.blt pc 6) (cond (Nat.beq pc 5) (some (.iload_n 2, 6)) none) (cond (Nat.beq pc 6) (some (.iconst 4, 7)) none)) (cond (Nat.blt pc 10) (cond (Nat.beq pc 7) (some (.if_icmp .ne 44, 51)) none) (cond (Nat.beq pc 10) (some (.aload_n 0, 11)) none)))) (cond (Nat.blt pc 19) (cond (Nat.blt pc 13) (cond (Nat.blt pc 12) (cond (Nat.beq pc 11) (some (.iload_n 1, 12)) none) (cond (Nat.beq pc 12) (some (.iconst 1, 13)) none)) (cond (Nat.blt pc 16) (cond (Nat.beq pc 13) (some (.invokevirtual 170, 16)) none) (cond (Nat.beq pc 16) (some (.ifCond .eq 35, 51)) none))) (cond (Nat.blt pc 21) (cond (Nat.blt pc 20) (cond (Nat.beq pc 19) (some (.aload_n 0, 20)) none) (cond (Nat.beq pc 20) (some (.iload_n 1, 21)) none)) (cond (Nat.blt pc 24) (cond (Nat.beq pc 21) (some (.invokevirtual 173, 24)) none) (cond (Nat.beq pc 24) (some (.ifCond .ne 27, 51)) none))))) (cond (Nat.blt pc 40) (cond (Nat.blt pc 32) (cond (Nat.blt pc 28) (cond (Nat.beq pc 27) (some (.aload_n 0, 28)) none) (cond (Nat.blt pc 29) (cond (Nat.beq pc 28) (some (.iload_n 1, 29)) none) (cond (Nat.beq pc 29) (some (.invokevirtual 176, 32)) none))) (cond (Nat.blt pc 36) (cond (Nat.blt pc 35) (cond (Nat.beq pc 32) (some (.ifCond .eq 19, 51)) none) (cond (Nat.beq pc 35) (some (.aload_n 0, 36)) none)) (cond (Nat.blt pc 37) (cond (Nat.beq pc 36) (some (.aload_n 0, 37)) none) (cond (Nat.beq pc 37) (some (.getfield 51, 40)) none)))) (cond (Nat.blt pc 46) (cond (Nat.blt pc 42) (cond (Nat.blt pc 41) (cond (Nat.beq pc 40) (some (.iload_n 1, 41)) none) (cond (Nat.beq pc 41) (some (.iaload, 42)) none)) (cond (Nat.blt pc 43) (cond (Nat.beq pc 42) (some (.aload_n 0, 43)) none) (cond (Nat.beq pc 43) (some (.getfield 54, 46)) none))) (cond (Nat.blt pc 48) (cond (Nat.blt pc 47) (cond (Nat.beq pc 46) (some (.iload_n 1, 47)) none) (cond (Nat.beq pc 47) (some (.iaload, 48)) none)) (cond (Nat.blt pc 51) (cond (Nat.beq pc 48) (some (.invokevirtual 161, 51)) none) (cond (Nat.beq pc 51) (some (.return_, 52)) none)))))) none
-- CaseDeskModel.follows(II)Z
def xc_87 : Nat → Option (Instr × Nat) := fun pc => cond (Nat.blt pc 61) (cond (Nat.blt pc 30) (cond (Nat.blt pc 12) (cond (Nat.blt pc 6) (cond (Nat.blt pc 2) (cond (Nat.blt pc 1) (cond (Nat.beq pc 0) (some (.iload_n 2, 1)) none) (cond (Nat.beq pc 1) (some (.iconst 5, 2)) none)) (cond (Nat.blt pc 5) (cond (Nat.beq pc 2) (some (.if_icmp .ne 21, 23)) none) (cond (Nat.beq pc 5) (some (.aload_n 0, 6)) none))) (cond (Nat.blt pc 10) (cond (Nat.blt pc 9) (cond (Nat.beq pc 6) (some (.getfield 57, 9)) none) (cond (Nat.beq pc 9) (some (.iload_n 1, 10)) none)) (cond (Nat.blt pc 11) (cond (Nat.beq pc 10) (some (.iaload, 11)) none) (cond (Nat.beq pc 11) (some (.iconst 2, 12)) none)))) (cond (Nat.blt pc 20) (cond (Nat.blt pc 16) (cond (Nat.blt pc 15) (cond (Nat.beq pc 12) (some (.if_icmp .ne 7, 19)) none) (cond (Nat.beq pc 15) (some (.iconst 1, 16)) none)) (cond (Nat.blt pc 19) (cond (Nat.beq pc 16) (some (.goto 44, 60)) none) (cond (Nat.beq pc 19) (some (.iconst 0, 20)) none))) (cond (Nat.blt pc 24) (cond (Nat.blt pc 23) (cond (Nat.beq pc 20) (some (.goto 40, 60)) none) (cond (Nat.beq pc 23) (some (.iload_n 2, 24)) none)) (cond (Nat.blt pc 26) (cond (Nat.beq pc 24) (some (.bipush 6, 26)) none) (cond (Nat.blt pc 29) (cond (Nat.beq pc 26) (some (.if_icmp .ne 21, 47)) none) (cond (Nat.beq pc 29) (some (.aload_n 0, 30)) none)))))) (cond (Nat.blt pc 44) (cond (Nat.blt pc 36) (cond (Nat.blt pc 34) (cond (Nat.blt pc 33) (cond (Nat.beq pc 30) (some (.getfield 57, 33)) none) (cond (Nat.beq pc 33) (some (.iload_n 1, 34)) none)) (cond (Nat.blt pc 35) (cond (Nat.beq pc 34) (some (.iaload, 35)) none) (cond (Nat.beq pc 35) (some (.iconst 3, 36)) none))) (cond (Nat.blt pc 40) (cond (Nat.blt pc 39) (cond (Nat.beq pc 36) (some (.if_icmp .ne 7, 43)) none) (cond (Nat.beq pc 39) (some (.iconst 1, 40)) none)) (cond (Nat.blt pc 43) (cond (Nat.beq pc 40) (some (.goto 20, 60)) none) (cond (Nat.beq pc 43) (some (.iconst 0, 44)) none)))) (cond (Nat.blt pc 52) (cond (Nat.blt pc 48) (cond (Nat.blt pc 47) (cond (Nat.beq pc 44) (some (.goto 16, 60)) none) (cond (Nat.beq pc 47) (some (.aload_n 0, 48)) none)) (cond (Nat.blt pc 49) (cond (Nat.beq pc 48) (some (.iload_n 1, 49)) none) (cond (Nat.beq pc 49) (some (.invokevirtual 145, 52)) none))) (cond (Nat.blt pc 56) (cond (Nat.blt pc 55) (cond (Nat.beq pc 52) (some (.ifCond .ne 7, 59)) none) (cond (Nat.beq pc 55) (some (.iconst 1, 56)) none)) (cond (Nat.blt pc 59) (cond (Nat.beq pc 56) (some (.goto 4, 60)) none) (cond (Nat.blt pc 60) (cond (Nat.beq pc 59) (some (.iconst 0, 60)) none) (cond (Nat.beq pc 60) (some (.ireturn, 61)) none))))))) none
-- CaseDeskModel.make(II)V
def xc_88 : Nat → Option (Instr × Nat) := fun pc => cond (Nat.blt pc 167) (cond (Nat.blt pc 79) (cond (Nat.blt pc 38) (cond (Nat.blt pc 19) (cond (Nat.blt pc 7) (cond (Nat.blt pc 2) (cond (Nat.blt pc 1) (cond (Nat.beq pc 0) (some (.aload_n 0, 1)) none) (cond (Nat.beq pc 1) (some (.iconst 0, 2)) none)) (cond (Nat.blt pc 5) (cond (Nat.beq pc 2) (some (.putfield 164, 5)) none) (cond (Nat.blt pc 6) (cond (Nat.beq pc 5) (some (.aload_n 0, 6)) none) (cond (Nat.beq pc 6) (some (.iload_n 1, 7)) none)))) (cond (Nat.blt pc 12) (cond (Nat.blt pc 8) (cond (Nat.beq pc 7) (some (.iload_n 2, 8)) none) (cond (Nat.blt pc 11) (cond (Nat.beq pc 8) (some (.invokevirtual 179, 11)) none) (cond (Nat.beq pc 11) (some (.aload_n 0, 12)) none))) (cond (Nat.blt pc 15) (cond (Nat.beq pc 12) (some (.getfield 164, 15)) none) (cond (Nat.blt pc 18) (cond (Nat.beq pc 15) (some (.ifCond .le 151, 166)) none) (cond (Nat.beq pc 18) (some (.aload_n 0, 19)) none))))) (cond (Nat.blt pc 30) (cond (Nat.blt pc 25) (cond (Nat.blt pc 22) (cond (Nat.beq pc 19) (some (.getfield 136, 22)) none) (cond (Nat.beq pc 22) (some (.ifCond .ne 144, 166)) none)) (cond (Nat.blt pc 26) (cond (Nat.beq pc 25) (some (.aload_n 0, 26)) none) (cond (Nat.blt pc 29) (cond (Nat.beq pc 26) (some (.getfield 99, 29)) none) (cond (Nat.beq pc 29) (some (.aload_n 0, 30)) none)))) (cond (Nat.blt pc 35) (cond (Nat.blt pc 33) (cond (Nat.beq pc 30) (some (.getfield 164, 33)) none) (cond (Nat.blt pc 34) (cond (Nat.beq pc 33) (some (.iconst 1, 34)) none) (cond (Nat.beq pc 34) (some (.isub, 35)) none))) (cond (Nat.blt pc 36) (cond (Nat.beq pc 35) (some (.iaload, 36)) none) (cond (Nat.blt pc 37) (cond (Nat.beq pc 36) (some (.istore_n 3, 37)) none) (cond (Nat.beq pc 37) (some (.aload_n 0, 38)) none)))))) (cond (Nat.blt pc 58) (cond (Nat.blt pc 47) (cond (Nat.blt pc 42) (cond (Nat.blt pc 41) (cond (Nat.beq pc 38) (some (.getfield 102, 41)) none) (cond (Nat.beq pc 41) (some (.aload_n 0, 42)) none)) (cond (Nat.blt pc 45) (cond (Nat.beq pc 42) (some (.getfield 164, 45)) none) (cond (Nat.blt pc 46) (cond (Nat.beq pc 45) (some (.iconst 1, 46)) none) (cond (Nat.beq pc 46) (some (.isub, 47)) none)))) (cond (Nat.blt pc 51) (cond (Nat.blt pc 48) (cond (Nat.beq pc 47) (some (.iaload, 48)) none) (cond (Nat.blt pc 50) (cond (Nat.beq pc 48) (some (.istore 4, 50)) none) (cond (Nat.beq pc 50) (some (.aload_n 0, 51)) none))) (cond (Nat.blt pc 54) (cond (Nat.beq pc 51) (some (.getfield 105, 54)) none) (cond (Nat.blt pc 55) (cond (Nat.beq pc 54) (some (.aload_n 0, 55)) none) (cond (Nat.beq pc 55) (some (.getfield 164, 58)) none))))) (cond (Nat.blt pc 66) (cond (Nat.blt pc 61) (cond (Nat.blt pc 59) (cond (Nat.beq pc 58) (some (.iconst 1, 59)) none) (cond (Nat.blt pc 60) (cond (Nat.beq pc 59) (some (.isub, 60)) none) (cond (Nat.beq pc 60) (some (.iaload, 61)) none))) (cond (Nat.blt pc 63) (cond (Nat.beq pc 61) (some (.istore 5, 63)) none) (cond (Nat.blt pc 65) (cond (Nat.beq pc 63) (some (.iload 5, 65)) none) (cond (Nat.beq pc 65) (some (.aload_n 0, 66)) none)))) (cond (Nat.blt pc 73) (cond (Nat.blt pc 69) (cond (Nat.beq pc 66) (some (.getfield 142, 69)) none) (cond (Nat.blt pc 72) (cond (Nat.beq pc 69) (some (.if_icmp .ge 31, 100)) none) (cond (Nat.beq pc 72) (some (.aload_n 0, 73)) none))) (cond (Nat.blt pc 76) (cond (Nat.beq pc 73) (some (.getfield 54, 76)) none) (cond (Nat.blt pc 78) (cond (Nat.beq pc 76) (some (.iload 5, 78)) none) (cond (Nat.beq pc 78) (some (.iaload, 79)) none))))))) (cond (Nat.blt pc 121) (cond (Nat.blt pc 104) (cond (Nat.blt pc 88) (cond (Nat.blt pc 83) (cond (Nat.blt pc 80) (cond (Nat.beq pc 79) (some (.iload_n 3, 80)) none) (cond (Nat.beq pc 80) (some (.if_icmp .ne 14, 94)) none)) (cond (Nat.blt pc 84) (cond (Nat.beq pc 83) (some (.aload_n 0, 84)) none) (cond (Nat.blt pc 86) (cond (Nat.beq pc 84) (some (.iload 5, 86)) none) (cond (Nat.beq pc 86) (some (.iload 4, 88)) none)))) (cond (Nat.blt pc 97) (cond (Nat.blt pc 91) (cond (Nat.beq pc 88) (some (.invokevirtual 182, 91)) none) (cond (Nat.blt pc 94) (cond (Nat.beq pc 91) (some (.ifCond .ne 9, 100)) none) (cond (Nat.beq pc 94) (some (.iinc 5 1, 97)) none))) (cond (Nat.blt pc 100) (cond (Nat.beq pc 97) (some (.goto (-34), 63)) none) (cond (Nat.blt pc 101) (cond (Nat.beq pc 100) (some (.aload_n 0, 101)) none) (cond (Nat.beq pc 101) (some (.getfield 105, 104)) none))))) (cond (Nat.blt pc 112) (cond (Nat.blt pc 108) (cond (Nat.blt pc 105) (cond (Nat.beq pc 104) (some (.aload_n 0, 105)) none) (cond (Nat.beq pc 105) (some (.getfield 164, 108)) none)) (cond (Nat.blt pc 109) (cond (Nat.beq pc 108) (some (.iconst 1, 109)) none) (cond (Nat.blt pc 110) (cond (Nat.beq pc 109) (some (.isub, 110)) none) (cond (Nat.beq pc 110) (some (.iload 5, 112)) none)))) (cond (Nat.blt pc 115) (cond (Nat.blt pc 113) (cond (Nat.beq pc 112) (some (.iconst 1, 113)) none) (cond (Nat.blt pc 114) (cond (Nat.beq pc 113) (some (.iadd, 114)) none) (cond (Nat.beq pc 114) (some (.iastore, 115)) none))) (cond (Nat.blt pc 117) (cond (Nat.beq pc 115) (some (.iload 5, 117)) none) (cond (Nat.blt pc 118) (cond (Nat.beq pc 117) (some (.aload_n 0, 118)) none) (cond (Nat.beq pc 118) (some (.getfield 142, 121)) none)))))) (cond (Nat.blt pc 146) (cond (Nat.blt pc 130) (cond (Nat.blt pc 125) (cond (Nat.blt pc 124) (cond (Nat.beq pc 121) (some (.if_icmp .ge 25, 146)) none) (cond (Nat.beq pc 124) (some (.aload_n 0, 125)) none)) (cond (Nat.blt pc 127) (cond (Nat.beq pc 125) (some (.iload 5, 127)) none) (cond (Nat.blt pc 129) (cond (Nat.beq pc 127) (some (.iload 4, 129)) none) (cond (Nat.beq pc 129) (some (.iconst 4, 130)) none)))) (cond (Nat.blt pc 138) (cond (Nat.blt pc 133) (cond (Nat.beq pc 130) (some (.if_icmp .ne 8, 138)) none) (cond (Nat.blt pc 135) (cond (Nat.beq pc 133) (some (.bipush 9, 135)) none) (cond (Nat.beq pc 135) (some (.goto 5, 140)) none))) (cond (Nat.blt pc 140) (cond (Nat.beq pc 138) (some (.iload 4, 140)) none) (cond (Nat.blt pc 143) (cond (Nat.beq pc 140) (some (.invokevirtual 179, 143)) none) (cond (Nat.beq pc 143) (some (.goto 20, 163)) none))))) (cond (Nat.blt pc 156) (cond (Nat.blt pc 151) (cond (Nat.blt pc 147) (cond (Nat.beq pc 146) (some (.aload_n 0, 147)) none) (cond (Nat.blt pc 148) (cond (Nat.beq pc 147) (some (.dup, 148)) none) (cond (Nat.beq pc 148) (some (.getfield 164, 151)) none))) (cond (Nat.blt pc 152) (cond (Nat.beq pc 151) (some (.iconst 1, 152)) none) (cond (Nat.blt pc 153) (cond (Nat.beq pc 152) (some (.isub, 153)) none) (cond (Nat.beq pc 153) (some (.putfield 164, 156)) none)))) (cond (Nat.blt pc 160) (cond (Nat.blt pc 157) (cond (Nat.beq pc 156) (some (.aload_n 0, 157)) none) (cond (Nat.blt pc 158) (cond (Nat.beq pc 157) (some (.iload_n 3, 158)) none) (cond (Nat.beq pc 158) (some (.iload 4, 160)) none))) (cond (Nat.blt pc 163) (cond (Nat.beq pc 160) (some (.invokevirtual 167, 163)) none) (cond (Nat.blt pc 166) (cond (Nat.beq pc 163) (some (.goto (-152), 11)) none) (cond (Nat.beq pc 166) (some (.return_, 167)) none)))))))) none
-- CaseDeskModel.satisfied(II)Z
def xc_89 : Nat → Option (Instr × Nat) := fun pc => cond (Nat.blt pc 153) (cond (Nat.blt pc 74) (cond (Nat.blt pc 33) (cond (Nat.blt pc 17) (cond (Nat.blt pc 7) (cond (Nat.blt pc 2) (cond (Nat.blt pc 1) (cond (Nat.beq pc 0) (some (.iconst 1, 1)) none) (cond (Nat.beq pc 1) (some (.istore_n 3, 2)) none)) (cond (Nat.blt pc 3) (cond (Nat.beq pc 2) (some (.iconst 0, 3)) none) (cond (Nat.blt pc 5) (cond (Nat.beq pc 3) (some (.istore 4, 5)) none) (cond (Nat.beq pc 5) (some (.iload 4, 7)) none)))) (cond (Nat.blt pc 12) (cond (Nat.blt pc 8) (cond (Nat.beq pc 7) (some (.aload_n 0, 8)) none) (cond (Nat.blt pc 11) (cond (Nat.beq pc 8) (some (.getfield 30, 11)) none) (cond (Nat.beq pc 11) (some (.iload_n 1, 12)) none))) (cond (Nat.blt pc 13) (cond (Nat.beq pc 12) (some (.iaload, 13)) none) (cond (Nat.blt pc 16) (cond (Nat.beq pc 13) (some (.if_icmp .ge 38, 51)) none) (cond (Nat.beq pc 16) (some (.iload_n 3, 17)) none))))) (cond (Nat.blt pc 26) (cond (Nat.blt pc 21) (cond (Nat.blt pc 20) (cond (Nat.beq pc 17) (some (.ifCond .eq 26, 43)) none) (cond (Nat.beq pc 20) (some (.aload_n 0, 21)) none)) (cond (Nat.blt pc 24) (cond (Nat.beq pc 21) (some (.getfield 63, 24)) none) (cond (Nat.blt pc 25) (cond (Nat.beq pc 24) (some (.iload_n 2, 25)) none) (cond (Nat.beq pc 25) (some (.iaload, 26)) none)))) (cond (Nat.blt pc 29) (cond (Nat.blt pc 27) (cond (Nat.beq pc 26) (some (.iconst 2, 27)) none) (cond (Nat.blt pc 28) (cond (Nat.beq pc 27) (some (.iload_n 1, 28)) none) (cond (Nat.beq pc 28) (some (.imul, 29)) none))) (cond (Nat.blt pc 31) (cond (Nat.beq pc 29) (some (.iload 4, 31)) none) (cond (Nat.blt pc 32) (cond (Nat.beq pc 31) (some (.iadd, 32)) none) (cond (Nat.beq pc 32) (some (.ishr, 33)) none)))))) (cond (Nat.blt pc 52) (cond (Nat.blt pc 40) (cond (Nat.blt pc 35) (cond (Nat.blt pc 34) (cond (Nat.beq pc 33) (some (.iconst 1, 34)) none) (cond (Nat.beq pc 34) (some (.iand, 35)) none)) (cond (Nat.blt pc 36) (cond (Nat.beq pc 35) (some (.iconst 1, 36)) none) (cond (Nat.blt pc 39) (cond (Nat.beq pc 36) (some (.if_icmp .ne 7, 43)) none) (cond (Nat.beq pc 39) (some (.iconst 1, 40)) none)))) (cond (Nat.blt pc 45) (cond (Nat.blt pc 43) (cond (Nat.beq pc 40) (some (.goto 4, 44)) none) (cond (Nat.blt pc 44) (cond (Nat.beq pc 43) (some (.iconst 0, 44)) none) (cond (Nat.beq pc 44) (some (.istore_n 3, 45)) none))) (cond (Nat.blt pc 48) (cond (Nat.beq pc 45) (some (.iinc 4 1, 48)) none) (cond (Nat.blt pc 51) (cond (Nat.beq pc 48) (some (.goto (-43), 5)) none) (cond (Nat.beq pc 51) (some (.iload_n 3, 52)) none))))) (cond (Nat.blt pc 64) (cond (Nat.blt pc 59) (cond (Nat.blt pc 55) (cond (Nat.beq pc 52) (some (.ifCond .eq 99, 151)) none) (cond (Nat.blt pc 56) (cond (Nat.beq pc 55) (some (.aload_n 0, 56)) none) (cond (Nat.beq pc 56) (some (.getfield 39, 59)) none))) (cond (Nat.blt pc 60) (cond (Nat.beq pc 59) (some (.iload_n 1, 60)) none) (cond (Nat.blt pc 61) (cond (Nat.beq pc 60) (some (.baload, 61)) none) (cond (Nat.beq pc 61) (some (.ifCond .eq 90, 151)) none)))) (cond (Nat.blt pc 69) (cond (Nat.blt pc 65) (cond (Nat.beq pc 64) (some (.aload_n 0, 65)) none) (cond (Nat.blt pc 68) (cond (Nat.beq pc 65) (some (.getfield 66, 68)) none) (cond (Nat.beq pc 68) (some (.aload_n 0, 69)) none))) (cond (Nat.blt pc 72) (cond (Nat.beq pc 69) (some (.getfield 42, 72)) none) (cond (Nat.blt pc 73) (cond (Nat.beq pc 72) (some (.iload_n 1, 73)) none) (cond (Nat.beq pc 73) (some (.iaload, 74)) none))))))) (cond (Nat.blt pc 112) (cond (Nat.blt pc 93) (cond (Nat.blt pc 82) (cond (Nat.blt pc 77) (cond (Nat.blt pc 75) (cond (Nat.beq pc 74) (some (.iaload, 75)) none) (cond (Nat.beq pc 75) (some (.istore 4, 77)) none)) (cond (Nat.blt pc 78) (cond (Nat.beq pc 77) (some (.aload_n 0, 78)) none) (cond (Nat.blt pc 81) (cond (Nat.beq pc 78) (some (.getfield 45, 81)) none) (cond (Nat.beq pc 81) (some (.iload_n 1, 82)) none)))) (cond (Nat.blt pc 88) (cond (Nat.blt pc 83) (cond (Nat.beq pc 82) (some (.iaload, 83)) none) (cond (Nat.blt pc 86) (cond (Nat.beq pc 83) (some (.ifCond .ne 22, 105)) none) (cond (Nat.beq pc 86) (some (.iload 4, 88)) none))) (cond (Nat.blt pc 89) (cond (Nat.beq pc 88) (some (.aload_n 0, 89)) none) (cond (Nat.blt pc 92) (cond (Nat.beq pc 89) (some (.getfield 48, 92)) none) (cond (Nat.beq pc 92) (some (.iload_n 1, 93)) none))))) (cond (Nat.blt pc 102) (cond (Nat.blt pc 97) (cond (Nat.blt pc 94) (cond (Nat.beq pc 93) (some (.iaload, 94)) none) (cond (Nat.beq pc 94) (some (.if_icmp .ge 7, 101)) none)) (cond (Nat.blt pc 98) (cond (Nat.beq pc 97) (some (.iconst 1, 98)) none) (cond (Nat.blt pc 101) (cond (Nat.beq pc 98) (some (.goto 52, 150)) none) (cond (Nat.beq pc 101) (some (.iconst 0, 102)) none)))) (cond (Nat.blt pc 109) (cond (Nat.blt pc 105) (cond (Nat.beq pc 102) (some (.goto 48, 150)) none) (cond (Nat.blt pc 106) (cond (Nat.beq pc 105) (some (.aload_n 0, 106)) none) (cond (Nat.beq pc 106) (some (.getfield 45, 109)) none))) (cond (Nat.blt pc 110) (cond (Nat.beq pc 109) (some (.iload_n 1, 110)) none) (cond (Nat.blt pc 111) (cond (Nat.beq pc 110) (some (.iaload, 111)) none) (cond (Nat.beq pc 111) (some (.iconst 1, 112)) none)))))) (cond (Nat.blt pc 134) (cond (Nat.blt pc 122) (cond (Nat.blt pc 117) (cond (Nat.blt pc 115) (cond (Nat.beq pc 112) (some (.if_icmp .ne 22, 134)) none) (cond (Nat.beq pc 115) (some (.iload 4, 117)) none)) (cond (Nat.blt pc 118) (cond (Nat.beq pc 117) (some (.aload_n 0, 118)) none) (cond (Nat.blt pc 121) (cond (Nat.beq pc 118) (some (.getfield 48, 121)) none) (cond (Nat.beq pc 121) (some (.iload_n 1, 122)) none)))) (cond (Nat.blt pc 127) (cond (Nat.blt pc 123) (cond (Nat.beq pc 122) (some (.iaload, 123)) none) (cond (Nat.blt pc 126) (cond (Nat.beq pc 123) (some (.if_icmp .ne 7, 130)) none) (cond (Nat.beq pc 126) (some (.iconst 1, 127)) none))) (cond (Nat.blt pc 130) (cond (Nat.beq pc 127) (some (.goto 23, 150)) none) (cond (Nat.blt pc 131) (cond (Nat.beq pc 130) (some (.iconst 0, 131)) none) (cond (Nat.beq pc 131) (some (.goto 19, 150)) none))))) (cond (Nat.blt pc 145) (cond (Nat.blt pc 140) (cond (Nat.blt pc 136) (cond (Nat.beq pc 134) (some (.iload 4, 136)) none) (cond (Nat.blt pc 137) (cond (Nat.beq pc 136) (some (.aload_n 0, 137)) none) (cond (Nat.beq pc 137) (some (.getfield 48, 140)) none))) (cond (Nat.blt pc 141) (cond (Nat.beq pc 140) (some (.iload_n 1, 141)) none) (cond (Nat.blt pc 142) (cond (Nat.beq pc 141) (some (.iaload, 142)) none) (cond (Nat.beq pc 142) (some (.if_icmp .le 7, 149)) none)))) (cond (Nat.blt pc 150) (cond (Nat.blt pc 146) (cond (Nat.beq pc 145) (some (.iconst 1, 146)) none) (cond (Nat.blt pc 149) (cond (Nat.beq pc 146) (some (.goto 4, 150)) none) (cond (Nat.beq pc 149) (some (.iconst 0, 150)) none))) (cond (Nat.blt pc 151) (cond (Nat.beq pc 150) (some (.istore_n 3, 151)) none) (cond (Nat.blt pc 152) (cond (Nat.beq pc 151) (some (.iload_n 3, 152)) none) (cond (Nat.beq pc 152) (some (.ireturn, 153)) none)))))))) none
-- CaseDeskModel.someSatisfied(IZ)Z
def xc_90 : Nat → Option (Instr × Nat) := fun pc => cond (Nat.blt pc 69) (cond (Nat.blt pc 34) (cond (Nat.blt pc 15) (cond (Nat.blt pc 5) (cond (Nat.blt pc 2) (cond (Nat.blt pc 1) (cond (Nat.beq pc 0) (some (.iconst 0, 1)) none) (cond (Nat.beq pc 1) (some (.istore_n 3, 2)) none)) (cond (Nat.blt pc 3) (cond (Nat.beq pc 2) (some (.iconst 0, 3)) none) (cond (Nat.beq pc 3) (some (.istore 4, 5)) none))) (cond (Nat.blt pc 8) (cond (Nat.blt pc 7) (cond (Nat.beq pc 5) (some (.iload 4, 7)) none) (cond (Nat.beq pc 7) (some (.aload_n 0, 8)) none)) (cond (Nat.blt pc 11) (cond (Nat.beq pc 8) (some (.getfield 123, 11)) none) (cond (Nat.blt pc 14) (cond (Nat.beq pc 11) (some (.if_icmp .ge 56, 67)) none) (cond (Nat.beq pc 14) (some (.iload_n 3, 15)) none))))) (cond (Nat.blt pc 25) (cond (Nat.blt pc 19) (cond (Nat.blt pc 18) (cond (Nat.beq pc 15) (some (.ifCond .ne 40, 55)) none) (cond (Nat.beq pc 18) (some (.aload_n 0, 19)) none)) (cond (Nat.blt pc 22) (cond (Nat.beq pc 19) (some (.getfield 23, 22)) none) (cond (Nat.blt pc 24) (cond (Nat.beq pc 22) (some (.iload 4, 24)) none) (cond (Nat.beq pc 24) (some (.iaload, 25)) none)))) (cond (Nat.blt pc 29) (cond (Nat.blt pc 26) (cond (Nat.beq pc 25) (some (.aload_n 0, 26)) none) (cond (Nat.beq pc 26) (some (.getfield 51, 29)) none)) (cond (Nat.blt pc 30) (cond (Nat.beq pc 29) (some (.iload_n 1, 30)) none) (cond (Nat.blt pc 31) (cond (Nat.beq pc 30) (some (.iaload, 31)) none) (cond (Nat.beq pc 31) (some (.if_icmp .ne 28, 59)) none)))))) (cond (Nat.blt pc 49) (cond (Nat.blt pc 41) (cond (Nat.blt pc 38) (cond (Nat.blt pc 35) (cond (Nat.beq pc 34) (some (.aload_n 0, 35)) none) (cond (Nat.beq pc 35) (some (.getfield 26, 38)) none)) (cond (Nat.blt pc 40) (cond (Nat.beq pc 38) (some (.iload 4, 40)) none) (cond (Nat.beq pc 40) (some (.baload, 41)) none))) (cond (Nat.blt pc 45) (cond (Nat.blt pc 42) (cond (Nat.beq pc 41) (some (.iload_n 2, 42)) none) (cond (Nat.beq pc 42) (some (.if_icmp .ne 17, 59)) none)) (cond (Nat.blt pc 46) (cond (Nat.beq pc 45) (some (.aload_n 0, 46)) none) (cond (Nat.blt pc 48) (cond (Nat.beq pc 46) (some (.iload 4, 48)) none) (cond (Nat.beq pc 48) (some (.iload_n 1, 49)) none))))) (cond (Nat.blt pc 60) (cond (Nat.blt pc 55) (cond (Nat.blt pc 52) (cond (Nat.beq pc 49) (some (.invokevirtual 185, 52)) none) (cond (Nat.beq pc 52) (some (.ifCond .eq 7, 59)) none)) (cond (Nat.blt pc 56) (cond (Nat.beq pc 55) (some (.iconst 1, 56)) none) (cond (Nat.blt pc 59) (cond (Nat.beq pc 56) (some (.goto 4, 60)) none) (cond (Nat.beq pc 59) (some (.iconst 0, 60)) none)))) (cond (Nat.blt pc 64) (cond (Nat.blt pc 61) (cond (Nat.beq pc 60) (some (.istore_n 3, 61)) none) (cond (Nat.beq pc 61) (some (.iinc 4 1, 64)) none)) (cond (Nat.blt pc 67) (cond (Nat.beq pc 64) (some (.goto (-59), 5)) none) (cond (Nat.blt pc 68) (cond (Nat.beq pc 67) (some (.iload_n 3, 68)) none) (cond (Nat.beq pc 68) (some (.ireturn, 69)) none))))))) none
-- CaseDeskModel.settled(I)Z
def xc_91 : Nat → Option (Instr × Nat) := fun pc => cond (Nat.blt pc 106) (cond (Nat.blt pc 51) (cond (Nat.blt pc 25) (cond (Nat.blt pc 9) (cond (Nat.blt pc 3) (cond (Nat.blt pc 1) (cond (Nat.beq pc 0) (some (.iconst 1, 1)) none) (cond (Nat.blt pc 2) (cond (Nat.beq pc 1) (some (.istore_n 2, 2)) none) (cond (Nat.beq pc 2) (some (.iconst 0, 3)) none))) (cond (Nat.blt pc 5) (cond (Nat.blt pc 4) (cond (Nat.beq pc 3) (some (.istore_n 3, 4)) none) (cond (Nat.beq pc 4) (some (.iload_n 3, 5)) none)) (cond (Nat.blt pc 6) (cond (Nat.beq pc 5) (some (.aload_n 0, 6)) none) (cond (Nat.beq pc 6) (some (.getfield 142, 9)) none)))) (cond (Nat.blt pc 17) (cond (Nat.blt pc 13) (cond (Nat.blt pc 12) (cond (Nat.beq pc 9) (some (.if_icmp .ge 95, 104)) none) (cond (Nat.beq pc 12) (some (.aload_n 0, 13)) none)) (cond (Nat.blt pc 16) (cond (Nat.beq pc 13) (some (.getfield 54, 16)) none) (cond (Nat.beq pc 16) (some (.iload_n 3, 17)) none))) (cond (Nat.blt pc 19) (cond (Nat.blt pc 18) (cond (Nat.beq pc 17) (some (.iaload, 18)) none) (cond (Nat.beq pc 18) (some (.iload_n 1, 19)) none)) (cond (Nat.blt pc 22) (cond (Nat.beq pc 19) (some (.if_icmp .eq 6, 25)) none) (cond (Nat.beq pc 22) (some (.goto 76, 98)) none))))) (cond (Nat.blt pc 38) (cond (Nat.blt pc 30) (cond (Nat.blt pc 26) (cond (Nat.beq pc 25) (some (.aload_n 0, 26)) none) (cond (Nat.blt pc 29) (cond (Nat.beq pc 26) (some (.getfield 57, 29)) none) (cond (Nat.beq pc 29) (some (.iload_n 3, 30)) none))) (cond (Nat.blt pc 34) (cond (Nat.blt pc 31) (cond (Nat.beq pc 30) (some (.iaload, 31)) none) (cond (Nat.beq pc 31) (some (.ifCond .eq 13, 44)) none)) (cond (Nat.blt pc 35) (cond (Nat.beq pc 34) (some (.aload_n 0, 35)) none) (cond (Nat.beq pc 35) (some (.getfield 57, 38)) none)))) (cond (Nat.blt pc 44) (cond (Nat.blt pc 40) (cond (Nat.blt pc 39) (cond (Nat.beq pc 38) (some (.iload_n 3, 39)) none) (cond (Nat.beq pc 39) (some (.iaload, 40)) none)) (cond (Nat.blt pc 41) (cond (Nat.beq pc 40) (some (.iconst 1, 41)) none) (cond (Nat.beq pc 41) (some (.if_icmp .ne 7, 48)) none))) (cond (Nat.blt pc 48) (cond (Nat.blt pc 45) (cond (Nat.beq pc 44) (some (.iconst 1, 45)) none) (cond (Nat.beq pc 45) (some (.goto 4, 49)) none)) (cond (Nat.blt pc 49) (cond (Nat.beq pc 48) (some (.iconst 0, 49)) none) (cond (Nat.beq pc 49) (some (.istore 4, 51)) none)))))) (cond (Nat.blt pc 76) (cond (Nat.blt pc 62) (cond (Nat.blt pc 56) (cond (Nat.blt pc 52) (cond (Nat.beq pc 51) (some (.aload_n 0, 52)) none) (cond (Nat.blt pc 55) (cond (Nat.beq pc 52) (some (.getfield 57, 55)) none) (cond (Nat.beq pc 55) (some (.iload_n 3, 56)) none))) (cond (Nat.blt pc 58) (cond (Nat.blt pc 57) (cond (Nat.beq pc 56) (some (.iaload, 57)) none) (cond (Nat.beq pc 57) (some (.iconst 2, 58)) none)) (cond (Nat.blt pc 61) (cond (Nat.beq pc 58) (some (.if_icmp .eq 38, 96)) none) (cond (Nat.beq pc 61) (some (.aload_n 0, 62)) none)))) (cond (Nat.blt pc 68) (cond (Nat.blt pc 66) (cond (Nat.blt pc 65) (cond (Nat.beq pc 62) (some (.getfield 57, 65)) none) (cond (Nat.beq pc 65) (some (.iload_n 3, 66)) none)) (cond (Nat.blt pc 67) (cond (Nat.beq pc 66) (some (.iaload, 67)) none) (cond (Nat.beq pc 67) (some (.iconst 3, 68)) none))) (cond (Nat.blt pc 72) (cond (Nat.blt pc 71) (cond (Nat.beq pc 68) (some (.if_icmp .eq 28, 96)) none) (cond (Nat.beq pc 71) (some (.aload_n 0, 72)) none)) (cond (Nat.blt pc 75) (cond (Nat.beq pc 72) (some (.getfield 57, 75)) none) (cond (Nat.beq pc 75) (some (.iload_n 3, 76)) none))))) (cond (Nat.blt pc 90) (cond (Nat.blt pc 84) (cond (Nat.blt pc 79) (cond (Nat.blt pc 77) (cond (Nat.beq pc 76) (some (.iaload, 77)) none) (cond (Nat.beq pc 77) (some (.bipush 6, 79)) none)) (cond (Nat.blt pc 82) (cond (Nat.beq pc 79) (some (.if_icmp .eq 17, 96)) none) (cond (Nat.beq pc 82) (some (.iload 4, 84)) none))) (cond (Nat.blt pc 88) (cond (Nat.blt pc 87) (cond (Nat.beq pc 84) (some (.ifCond .eq 14, 98)) none) (cond (Nat.beq pc 87) (some (.aload_n 0, 88)) none)) (cond (Nat.blt pc 89) (cond (Nat.beq pc 88) (some (.iload_n 3, 89)) none) (cond (Nat.beq pc 89) (some (.iconst 2, 90)) none)))) (cond (Nat.blt pc 98) (cond (Nat.blt pc 96) (cond (Nat.blt pc 93) (cond (Nat.beq pc 90) (some (.invokevirtual 170, 93)) none) (cond (Nat.beq pc 93) (some (.ifCond .eq 5, 98)) none)) (cond (Nat.blt pc 97) (cond (Nat.beq pc 96) (some (.iconst 0, 97)) none) (cond (Nat.beq pc 97) (some (.istore_n 2, 98)) none))) (cond (Nat.blt pc 104) (cond (Nat.blt pc 101) (cond (Nat.beq pc 98) (some (.iinc 3 1, 101)) none) (cond (Nat.beq pc 101) (some (.goto (-97), 4)) none)) (cond (Nat.blt pc 105) (cond (Nat.beq pc 104) (some (.iload_n 2, 105)) none) (cond (Nat.beq pc 105) (some (.ireturn, 106)) none))))))) none
-- CaseDeskModel.done(I)Z
def xc_92 : Nat → Option (Instr × Nat) := fun pc => cond (Nat.blt pc 65) (cond (Nat.blt pc 31) (cond (Nat.blt pc 13) (cond (Nat.blt pc 6) (cond (Nat.blt pc 2) (cond (Nat.blt pc 1) (cond (Nat.beq pc 0) (some (.aload_n 0, 1)) none) (cond (Nat.beq pc 1) (some (.iload_n 1, 2)) none)) (cond (Nat.blt pc 5) (cond (Nat.beq pc 2) (some (.invokevirtual 188, 5)) none) (cond (Nat.beq pc 5) (some (.istore_n 2, 6)) none))) (cond (Nat.blt pc 8) (cond (Nat.blt pc 7) (cond (Nat.beq pc 6) (some (.iconst 0, 7)) none) (cond (Nat.beq pc 7) (some (.istore_n 3, 8)) none)) (cond (Nat.blt pc 9) (cond (Nat.beq pc 8) (some (.iload_n 3, 9)) none) (cond (Nat.blt pc 10) (cond (Nat.beq pc 9) (some (.aload_n 0, 10)) none) (cond (Nat.beq pc 10) (some (.getfield 142, 13)) none))))) (cond (Nat.blt pc 22) (cond (Nat.blt pc 17) (cond (Nat.blt pc 16) (cond (Nat.beq pc 13) (some (.if_icmp .ge 50, 63)) none) (cond (Nat.beq pc 16) (some (.aload_n 0, 17)) none)) (cond (Nat.blt pc 20) (cond (Nat.beq pc 17) (some (.getfield 54, 20)) none) (cond (Nat.blt pc 21) (cond (Nat.beq pc 20) (some (.iload_n 3, 21)) none) (cond (Nat.beq pc 21) (some (.iaload, 22)) none)))) (cond (Nat.blt pc 26) (cond (Nat.blt pc 23) (cond (Nat.beq pc 22) (some (.iload_n 1, 23)) none) (cond (Nat.beq pc 23) (some (.if_icmp .ne 34, 57)) none)) (cond (Nat.blt pc 27) (cond (Nat.beq pc 26) (some (.aload_n 0, 27)) none) (cond (Nat.blt pc 30) (cond (Nat.beq pc 27) (some (.getfield 57, 30)) none) (cond (Nat.beq pc 30) (some (.iload_n 3, 31)) none)))))) (cond (Nat.blt pc 46) (cond (Nat.blt pc 39) (cond (Nat.blt pc 35) (cond (Nat.blt pc 32) (cond (Nat.beq pc 31) (some (.iaload, 32)) none) (cond (Nat.beq pc 32) (some (.ifCond .eq 13, 45)) none)) (cond (Nat.blt pc 36) (cond (Nat.beq pc 35) (some (.aload_n 0, 36)) none) (cond (Nat.beq pc 36) (some (.getfield 57, 39)) none))) (cond (Nat.blt pc 41) (cond (Nat.blt pc 40) (cond (Nat.beq pc 39) (some (.iload_n 3, 40)) none) (cond (Nat.beq pc 40) (some (.iaload, 41)) none)) (cond (Nat.blt pc 42) (cond (Nat.beq pc 41) (some (.iconst 1, 42)) none) (cond (Nat.blt pc 45) (cond (Nat.beq pc 42) (some (.if_icmp .ne 15, 57)) none) (cond (Nat.beq pc 45) (some (.aload_n 0, 46)) none))))) (cond (Nat.blt pc 56) (cond (Nat.blt pc 49) (cond (Nat.blt pc 47) (cond (Nat.beq pc 46) (some (.iload_n 1, 47)) none) (cond (Nat.beq pc 47) (some (.bipush 8, 49)) none)) (cond (Nat.blt pc 52) (cond (Nat.beq pc 49) (some (.invokevirtual 170, 52)) none) (cond (Nat.blt pc 55) (cond (Nat.beq pc 52) (some (.ifCond .ne 5, 57)) none) (cond (Nat.beq pc 55) (some (.iconst 0, 56)) none)))) (cond (Nat.blt pc 60) (cond (Nat.blt pc 57) (cond (Nat.beq pc 56) (some (.istore_n 2, 57)) none) (cond (Nat.beq pc 57) (some (.iinc 3 1, 60)) none)) (cond (Nat.blt pc 63) (cond (Nat.beq pc 60) (some (.goto (-52), 8)) none) (cond (Nat.blt pc 64) (cond (Nat.beq pc 63) (some (.iload_n 2, 64)) none) (cond (Nat.beq pc 64) (some (.ireturn, 65)) none))))))) none
-- CaseDeskModel.toExit()I
def xc_93 : Nat → Option (Instr × Nat) := fun pc => cond (Nat.blt pc 45) (cond (Nat.blt pc 20) (cond (Nat.blt pc 10) (cond (Nat.blt pc 3) (cond (Nat.blt pc 1) (cond (Nat.beq pc 0) (some (.iconst 0, 1)) none) (cond (Nat.blt pc 2) (cond (Nat.beq pc 1) (some (.istore_n 1, 2)) none) (cond (Nat.beq pc 2) (some (.iload_n 1, 3)) none))) (cond (Nat.blt pc 4) (cond (Nat.beq pc 3) (some (.aload_n 0, 4)) none) (cond (Nat.blt pc 7) (cond (Nat.beq pc 4) (some (.getfield 142, 7)) none) (cond (Nat.beq pc 7) (some (.if_icmp .ge 36, 43)) none)))) (cond (Nat.blt pc 15) (cond (Nat.blt pc 11) (cond (Nat.beq pc 10) (some (.aload_n 0, 11)) none) (cond (Nat.blt pc 12) (cond (Nat.beq pc 11) (some (.iload_n 1, 12)) none) (cond (Nat.beq pc 12) (some (.invokevirtual 145, 15)) none))) (cond (Nat.blt pc 18) (cond (Nat.beq pc 15) (some (.ifCond .ne 22, 37)) none) (cond (Nat.blt pc 19) (cond (Nat.beq pc 18) (some (.aload_n 0, 19)) none) (cond (Nat.beq pc 19) (some (.iload_n 1, 20)) none))))) (cond (Nat.blt pc 32) (cond (Nat.blt pc 27) (cond (Nat.blt pc 23) (cond (Nat.beq pc 20) (some (.invokevirtual 176, 23)) none) (cond (Nat.blt pc 26) (cond (Nat.beq pc 23) (some (.ifCond .eq 14, 37)) none) (cond (Nat.beq pc 26) (some (.aload_n 0, 27)) none))) (cond (Nat.blt pc 28) (cond (Nat.beq pc 27) (some (.iload_n 1, 28)) none) (cond (Nat.blt pc 29) (cond (Nat.beq pc 28) (some (.iconst 1, 29)) none) (cond (Nat.beq pc 29) (some (.invokevirtual 191, 32)) none)))) (cond (Nat.blt pc 37) (cond (Nat.blt pc 35) (cond (Nat.beq pc 32) (some (.ifCond .eq 5, 37)) none) (cond (Nat.blt pc 36) (cond (Nat.beq pc 35) (some (.iload_n 1, 36)) none) (cond (Nat.beq pc 36) (some (.ireturn, 37)) none))) (cond (Nat.blt pc 43) (cond (Nat.blt pc 40) (cond (Nat.beq pc 37) (some (.iinc 1 1, 40)) none) (cond (Nat.beq pc 40) (some (.goto (-38), 2)) none)) (cond (Nat.blt pc 44) (cond (Nat.beq pc 43) (some (.iconst (-1), 44)) none) (cond (Nat.beq pc 44) (some (.ireturn, 45)) none)))))) none
-- CaseDeskModel.toLetIn()I
def xc_94 : Nat → Option (Instr × Nat) := fun pc => cond (Nat.blt pc 66) (cond (Nat.blt pc 30) (cond (Nat.blt pc 15) (cond (Nat.blt pc 4) (cond (Nat.blt pc 2) (cond (Nat.blt pc 1) (cond (Nat.beq pc 0) (some (.iconst 0, 1)) none) (cond (Nat.beq pc 1) (some (.istore_n 1, 2)) none)) (cond (Nat.blt pc 3) (cond (Nat.beq pc 2) (some (.iload_n 1, 3)) none) (cond (Nat.beq pc 3) (some (.aload_n 0, 4)) none))) (cond (Nat.blt pc 10) (cond (Nat.blt pc 7) (cond (Nat.beq pc 4) (some (.getfield 142, 7)) none) (cond (Nat.beq pc 7) (some (.if_icmp .ge 57, 64)) none)) (cond (Nat.blt pc 11) (cond (Nat.beq pc 10) (some (.aload_n 0, 11)) none) (cond (Nat.blt pc 14) (cond (Nat.beq pc 11) (some (.getfield 57, 14)) none) (cond (Nat.beq pc 14) (some (.iload_n 1, 15)) none))))) (cond (Nat.blt pc 21) (cond (Nat.blt pc 19) (cond (Nat.blt pc 16) (cond (Nat.beq pc 15) (some (.iaload, 16)) none) (cond (Nat.beq pc 16) (some (.ifCond .ne 42, 58)) none)) (cond (Nat.blt pc 20) (cond (Nat.beq pc 19) (some (.aload_n 0, 20)) none) (cond (Nat.beq pc 20) (some (.iload_n 1, 21)) none))) (cond (Nat.blt pc 25) (cond (Nat.blt pc 24) (cond (Nat.beq pc 21) (some (.invokevirtual 158, 24)) none) (cond (Nat.beq pc 24) (some (.iconst 3, 25)) none)) (cond (Nat.blt pc 28) (cond (Nat.beq pc 25) (some (.if_icmp .eq 33, 58)) none) (cond (Nat.blt pc 29) (cond (Nat.beq pc 28) (some (.aload_n 0, 29)) none) (cond (Nat.beq pc 29) (some (.iload_n 1, 30)) none)))))) (cond (Nat.blt pc 49) (cond (Nat.blt pc 40) (cond (Nat.blt pc 36) (cond (Nat.blt pc 33) (cond (Nat.beq pc 30) (some (.invokevirtual 176, 33)) none) (cond (Nat.beq pc 33) (some (.ifCond .ne 6, 39)) none)) (cond (Nat.blt pc 39) (cond (Nat.beq pc 36) (some (.goto 22, 58)) none) (cond (Nat.beq pc 39) (some (.aload_n 0, 40)) none))) (cond (Nat.blt pc 44) (cond (Nat.blt pc 41) (cond (Nat.beq pc 40) (some (.iload_n 1, 41)) none) (cond (Nat.beq pc 41) (some (.invokevirtual 173, 44)) none)) (cond (Nat.blt pc 47) (cond (Nat.beq pc 44) (some (.ifCond .eq 12, 56)) none) (cond (Nat.blt pc 48) (cond (Nat.beq pc 47) (some (.aload_n 0, 48)) none) (cond (Nat.beq pc 48) (some (.iload_n 1, 49)) none))))) (cond (Nat.blt pc 57) (cond (Nat.blt pc 53) (cond (Nat.blt pc 50) (cond (Nat.beq pc 49) (some (.iconst 0, 50)) none) (cond (Nat.beq pc 50) (some (.invokevirtual 191, 53)) none)) (cond (Nat.blt pc 56) (cond (Nat.beq pc 53) (some (.ifCond .eq 5, 58)) none) (cond (Nat.beq pc 56) (some (.iload_n 1, 57)) none))) (cond (Nat.blt pc 61) (cond (Nat.blt pc 58) (cond (Nat.beq pc 57) (some (.ireturn, 58)) none) (cond (Nat.beq pc 58) (some (.iinc 1 1, 61)) none)) (cond (Nat.blt pc 64) (cond (Nat.beq pc 61) (some (.goto (-59), 2)) none) (cond (Nat.blt pc 65) (cond (Nat.beq pc 64) (some (.iconst (-1), 65)) none) (cond (Nat.beq pc 65) (some (.ireturn, 66)) none))))))) none
-- CaseDeskModel.toComplete()I
def xc_95 : Nat → Option (Instr × Nat) := fun pc => cond (Nat.blt pc 63) (cond (Nat.blt pc 29) (cond (Nat.blt pc 14) (cond (Nat.blt pc 4) (cond (Nat.blt pc 2) (cond (Nat.blt pc 1) (cond (Nat.beq pc 0) (some (.iconst 0, 1)) none) (cond (Nat.beq pc 1) (some (.istore_n 1, 2)) none)) (cond (Nat.blt pc 3) (cond (Nat.beq pc 2) (some (.iload_n 1, 3)) none) (cond (Nat.beq pc 3) (some (.aload_n 0, 4)) none))) (cond (Nat.blt pc 10) (cond (Nat.blt pc 7) (cond (Nat.beq pc 4) (some (.getfield 142, 7)) none) (cond (Nat.beq pc 7) (some (.if_icmp .ge 54, 61)) none)) (cond (Nat.blt pc 11) (cond (Nat.beq pc 10) (some (.aload_n 0, 11)) none) (cond (Nat.beq pc 11) (some (.getfield 57, 14)) none)))) (cond (Nat.blt pc 20) (cond (Nat.blt pc 16) (cond (Nat.blt pc 15) (cond (Nat.beq pc 14) (some (.iload_n 1, 15)) none) (cond (Nat.beq pc 15) (some (.iaload, 16)) none)) (cond (Nat.blt pc 17) (cond (Nat.beq pc 16) (some (.iconst 2, 17)) none) (cond (Nat.beq pc 17) (some (.if_icmp .ne 38, 55)) none))) (cond (Nat.blt pc 22) (cond (Nat.blt pc 21) (cond (Nat.beq pc 20) (some (.aload_n 0, 21)) none) (cond (Nat.beq pc 21) (some (.iload_n 1, 22)) none)) (cond (Nat.blt pc 25) (cond (Nat.beq pc 22) (some (.invokevirtual 158, 25)) none) (cond (Nat.blt pc 28) (cond (Nat.beq pc 25) (some (.ifCond .ne 30, 55)) none) (cond (Nat.beq pc 28) (some (.aload_n 0, 29)) none)))))) (cond (Nat.blt pc 46) (cond (Nat.blt pc 37) (cond (Nat.blt pc 33) (cond (Nat.blt pc 32) (cond (Nat.beq pc 29) (some (.getfield 54, 32)) none) (cond (Nat.beq pc 32) (some (.iload_n 1, 33)) none)) (cond (Nat.blt pc 34) (cond (Nat.beq pc 33) (some (.iaload, 34)) none) (cond (Nat.beq pc 34) (some (.ifCond .lt 11, 45)) none))) (cond (Nat.blt pc 39) (cond (Nat.blt pc 38) (cond (Nat.beq pc 37) (some (.aload_n 0, 38)) none) (cond (Nat.beq pc 38) (some (.iload_n 1, 39)) none)) (cond (Nat.blt pc 42) (cond (Nat.beq pc 39) (some (.invokevirtual 176, 42)) none) (cond (Nat.blt pc 45) (cond (Nat.beq pc 42) (some (.ifCond .eq 13, 55)) none) (cond (Nat.beq pc 45) (some (.aload_n 0, 46)) none))))) (cond (Nat.blt pc 54) (cond (Nat.blt pc 50) (cond (Nat.blt pc 47) (cond (Nat.beq pc 46) (some (.iload_n 1, 47)) none) (cond (Nat.beq pc 47) (some (.invokevirtual 195, 50)) none)) (cond (Nat.blt pc 53) (cond (Nat.beq pc 50) (some (.ifCond .eq 5, 55)) none) (cond (Nat.beq pc 53) (some (.iload_n 1, 54)) none))) (cond (Nat.blt pc 58) (cond (Nat.blt pc 55) (cond (Nat.beq pc 54) (some (.ireturn, 55)) none) (cond (Nat.beq pc 55) (some (.iinc 1 1, 58)) none)) (cond (Nat.blt pc 61) (cond (Nat.beq pc 58) (some (.goto (-56), 2)) none) (cond (Nat.blt pc 62) (cond (Nat.beq pc 61) (some (.iconst (-1), 62)) none) (cond (Nat.beq pc 62) (some (.ireturn, 63)) none))))))) none
-- CaseDeskModel.letIn(I)V
def xc_96 : Nat → Option (Instr × Nat) := fun pc => cond (Nat.blt pc 79) (cond (Nat.blt pc 40) (cond (Nat.blt pc 19) (cond (Nat.blt pc 9) (cond (Nat.blt pc 2) (cond (Nat.blt pc 1) (cond (Nat.beq pc 0) (some (.aload_n 0, 1)) none) (cond (Nat.beq pc 1) (some (.iload_n 1, 2)) none)) (cond (Nat.blt pc 3) (cond (Nat.beq pc 2) (some (.iconst 1, 3)) none) (cond (Nat.blt pc 6) (cond (Nat.beq pc 3) (some (.invokevirtual 170, 6)) none) (cond (Nat.beq pc 6) (some (.ifCond .eq 27, 33)) none)))) (cond (Nat.blt pc 14) (cond (Nat.blt pc 10) (cond (Nat.beq pc 9) (some (.aload_n 0, 10)) none) (cond (Nat.blt pc 11) (cond (Nat.beq pc 10) (some (.iload_n 1, 11)) none) (cond (Nat.beq pc 11) (some (.invokevirtual 173, 14)) none))) (cond (Nat.blt pc 17) (cond (Nat.beq pc 14) (some (.ifCond .eq 19, 33)) none) (cond (Nat.blt pc 18) (cond (Nat.beq pc 17) (some (.aload_n 0, 18)) none) (cond (Nat.beq pc 18) (some (.aload_n 0, 19)) none))))) (cond (Nat.blt pc 28) (cond (Nat.blt pc 23) (cond (Nat.blt pc 22) (cond (Nat.beq pc 19) (some (.getfield 51, 22)) none) (cond (Nat.beq pc 22) (some (.iload_n 1, 23)) none)) (cond (Nat.blt pc 24) (cond (Nat.beq pc 23) (some (.iaload, 24)) none) (cond (Nat.blt pc 25) (cond (Nat.beq pc 24) (some (.aload_n 0, 25)) none) (cond (Nat.beq pc 25) (some (.getfield 54, 28)) none)))) (cond (Nat.blt pc 33) (cond (Nat.blt pc 29) (cond (Nat.beq pc 28) (some (.iload_n 1, 29)) none) (cond (Nat.blt pc 30) (cond (Nat.beq pc 29) (some (.iaload, 30)) none) (cond (Nat.beq pc 30) (some (.invokevirtual 161, 33)) none))) (cond (Nat.blt pc 34) (cond (Nat.beq pc 33) (some (.aload_n 0, 34)) none) (cond (Nat.blt pc 37) (cond (Nat.beq pc 34) (some (.getfield 136, 37)) none) (cond (Nat.beq pc 37) (some (.ifCond .eq 4, 41)) none)))))) (cond (Nat.blt pc 59) (cond (Nat.blt pc 47) (cond (Nat.blt pc 42) (cond (Nat.blt pc 41) (cond (Nat.beq pc 40) (some (.return_, 41)) none) (cond (Nat.beq pc 41) (some (.aload_n 0, 42)) none)) (cond (Nat.blt pc 43) (cond (Nat.beq pc 42) (some (.iload_n 1, 43)) none) (cond (Nat.blt pc 46) (cond (Nat.beq pc 43) (some (.invokevirtual 158, 46)) none) (cond (Nat.beq pc 46) (some (.iconst 2, 47)) none)))) (cond (Nat.blt pc 52) (cond (Nat.blt pc 50) (cond (Nat.beq pc 47) (some (.if_icmp .ne 12, 59)) none) (cond (Nat.blt pc 51) (cond (Nat.beq pc 50) (some (.aload_n 0, 51)) none) (cond (Nat.beq pc 51) (some (.iload_n 1, 52)) none))) (cond (Nat.blt pc 53) (cond (Nat.beq pc 52) (some (.iconst 3, 53)) none) (cond (Nat.blt pc 56) (cond (Nat.beq pc 53) (some (.invokevirtual 198, 56)) none) (cond (Nat.beq pc 56) (some (.goto 22, 78)) none))))) (cond (Nat.blt pc 67) (cond (Nat.blt pc 62) (cond (Nat.blt pc 60) (cond (Nat.beq pc 59) (some (.aload_n 0, 60)) none) (cond (Nat.blt pc 61) (cond (Nat.beq pc 60) (some (.iload_n 1, 61)) none) (cond (Nat.beq pc 61) (some (.aload_n 0, 62)) none))) (cond (Nat.blt pc 63) (cond (Nat.beq pc 62) (some (.iload_n 1, 63)) none) (cond (Nat.blt pc 64) (cond (Nat.beq pc 63) (some (.iconst 4, 64)) none) (cond (Nat.beq pc 64) (some (.invokevirtual 170, 67)) none)))) (cond (Nat.blt pc 74) (cond (Nat.blt pc 70) (cond (Nat.beq pc 67) (some (.ifCond .eq 7, 74)) none) (cond (Nat.blt pc 71) (cond (Nat.beq pc 70) (some (.iconst 1, 71)) none) (cond (Nat.beq pc 71) (some (.goto 4, 75)) none))) (cond (Nat.blt pc 75) (cond (Nat.beq pc 74) (some (.iconst 2, 75)) none) (cond (Nat.blt pc 78) (cond (Nat.beq pc 75) (some (.invokevirtual 198, 78)) none) (cond (Nat.beq pc 78) (some (.return_, 79)) none))))))) none
-- CaseDeskModel.workOff()V
def xc_97 : Nat → Option (Instr × Nat) := fun pc => cond (Nat.blt pc 78) (cond (Nat.blt pc 38) (cond (Nat.blt pc 18) (cond (Nat.blt pc 7) (cond (Nat.blt pc 2) (cond (Nat.blt pc 1) (cond (Nat.beq pc 0) (some (.iconst 1, 1)) none) (cond (Nat.beq pc 1) (some (.istore_n 1, 2)) none)) (cond (Nat.blt pc 3) (cond (Nat.beq pc 2) (some (.iload_n 1, 3)) none) (cond (Nat.blt pc 6) (cond (Nat.beq pc 3) (some (.ifCond .eq 74, 77)) none) (cond (Nat.beq pc 6) (some (.aload_n 0, 7)) none)))) (cond (Nat.blt pc 13) (cond (Nat.blt pc 10) (cond (Nat.beq pc 7) (some (.getfield 136, 10)) none) (cond (Nat.beq pc 10) (some (.ifCond .ne 67, 77)) none)) (cond (Nat.blt pc 14) (cond (Nat.beq pc 13) (some (.aload_n 0, 14)) none) (cond (Nat.blt pc 17) (cond (Nat.beq pc 14) (some (.invokevirtual 201, 17)) none) (cond (Nat.beq pc 17) (some (.istore_n 2, 18)) none))))) (cond (Nat.blt pc 26) (cond (Nat.blt pc 22) (cond (Nat.blt pc 19) (cond (Nat.beq pc 18) (some (.iload_n 2, 19)) none) (cond (Nat.beq pc 19) (some (.ifCond .lt 13, 32)) none)) (cond (Nat.blt pc 23) (cond (Nat.beq pc 22) (some (.aload_n 0, 23)) none) (cond (Nat.blt pc 24) (cond (Nat.beq pc 23) (some (.iload_n 2, 24)) none) (cond (Nat.beq pc 24) (some (.bipush 9, 26)) none)))) (cond (Nat.blt pc 33) (cond (Nat.blt pc 29) (cond (Nat.beq pc 26) (some (.invokevirtual 198, 29)) none) (cond (Nat.blt pc 32) (cond (Nat.beq pc 29) (some (.goto (-27), 2)) none) (cond (Nat.beq pc 32) (some (.aload_n 0, 33)) none))) (cond (Nat.blt pc 36) (cond (Nat.beq pc 33) (some (.invokevirtual 205, 36)) none) (cond (Nat.blt pc 37) (cond (Nat.beq pc 36) (some (.istore_n 2, 37)) none) (cond (Nat.beq pc 37) (some (.iload_n 2, 38)) none)))))) (cond (Nat.blt pc 59) (cond (Nat.blt pc 49) (cond (Nat.blt pc 42) (cond (Nat.blt pc 41) (cond (Nat.beq pc 38) (some (.ifCond .lt 11, 49)) none) (cond (Nat.beq pc 41) (some (.aload_n 0, 42)) none)) (cond (Nat.blt pc 43) (cond (Nat.beq pc 42) (some (.iload_n 2, 43)) none) (cond (Nat.blt pc 46) (cond (Nat.beq pc 43) (some (.invokevirtual 208, 46)) none) (cond (Nat.beq pc 46) (some (.goto (-44), 2)) none)))) (cond (Nat.blt pc 54) (cond (Nat.blt pc 50) (cond (Nat.beq pc 49) (some (.aload_n 0, 50)) none) (cond (Nat.blt pc 53) (cond (Nat.beq pc 50) (some (.invokevirtual 212, 53)) none) (cond (Nat.beq pc 53) (some (.istore_n 2, 54)) none))) (cond (Nat.blt pc 55) (cond (Nat.beq pc 54) (some (.iload_n 2, 55)) none) (cond (Nat.blt pc 58) (cond (Nat.beq pc 55) (some (.ifCond .lt 7, 62)) none) (cond (Nat.beq pc 58) (some (.iconst 1, 59)) none))))) (cond (Nat.blt pc 68) (cond (Nat.blt pc 63) (cond (Nat.blt pc 62) (cond (Nat.beq pc 59) (some (.goto 4, 63)) none) (cond (Nat.beq pc 62) (some (.iconst 0, 63)) none)) (cond (Nat.blt pc 64) (cond (Nat.beq pc 63) (some (.istore_n 1, 64)) none) (cond (Nat.blt pc 65) (cond (Nat.beq pc 64) (some (.iload_n 1, 65)) none) (cond (Nat.beq pc 65) (some (.ifCond .eq 9, 74)) none)))) (cond (Nat.blt pc 71) (cond (Nat.blt pc 69) (cond (Nat.beq pc 68) (some (.aload_n 0, 69)) none) (cond (Nat.blt pc 70) (cond (Nat.beq pc 69) (some (.iload_n 2, 70)) none) (cond (Nat.beq pc 70) (some (.iconst 4, 71)) none))) (cond (Nat.blt pc 74) (cond (Nat.beq pc 71) (some (.invokevirtual 198, 74)) none) (cond (Nat.blt pc 77) (cond (Nat.beq pc 74) (some (.goto (-72), 2)) none) (cond (Nat.beq pc 77) (some (.return_, 78)) none))))))) none
-- CaseDeskModel.keep()V
def xc_98 : Nat → Option (Instr × Nat) := fun pc => cond (Nat.blt pc 164) (cond (Nat.blt pc 81) (cond (Nat.blt pc 42) (cond (Nat.blt pc 21) (cond (Nat.blt pc 10) (cond (Nat.blt pc 5) (cond (Nat.blt pc 1) (cond (Nat.beq pc 0) (some (.aload_n 0, 1)) none) (cond (Nat.blt pc 2) (cond (Nat.beq pc 1) (some (.aload_n 0, 2)) none) (cond (Nat.beq pc 2) (some (.getfield 142, 5)) none))) (cond (Nat.blt pc 8) (cond (Nat.beq pc 5) (some (.putfield 215, 8)) none) (cond (Nat.blt pc 9) (cond (Nat.beq pc 8) (some (.aload_n 0, 9)) none) (cond (Nat.beq pc 9) (some (.aload_n 0, 10)) none)))) (cond (Nat.blt pc 17) (cond (Nat.blt pc 13) (cond (Nat.beq pc 10) (some (.getfield 139, 13)) none) (cond (Nat.blt pc 16) (cond (Nat.beq pc 13) (some (.putfield 218, 16)) none) (cond (Nat.beq pc 16) (some (.iconst 0, 17)) none))) (cond (Nat.blt pc 18) (cond (Nat.beq pc 17) (some (.istore_n 1, 18)) none) (cond (Nat.blt pc 19) (cond (Nat.beq pc 18) (some (.iload_n 1, 19)) none) (cond (Nat.beq pc 19) (some (.bipush 40, 21)) none))))) (cond (Nat.blt pc 33) (cond (Nat.blt pc 28) (cond (Nat.blt pc 24) (cond (Nat.beq pc 21) (some (.if_icmp .ge 69, 90)) none) (cond (Nat.blt pc 25) (cond (Nat.beq pc 24) (some (.aload_n 0, 25)) none) (cond (Nat.beq pc 25) (some (.getfield 75, 28)) none))) (cond (Nat.blt pc 29) (cond (Nat.beq pc 28) (some (.iload_n 1, 29)) none) (cond (Nat.blt pc 30) (cond (Nat.beq pc 29) (some (.aload_n 0, 30)) none) (cond (Nat.beq pc 30) (some (.getfield 51, 33)) none)))) (cond (Nat.blt pc 36) (cond (Nat.blt pc 34) (cond (Nat.beq pc 33) (some (.iload_n 1, 34)) none) (cond (Nat.blt pc 35) (cond (Nat.beq pc 34) (some (.iaload, 35)) none) (cond (Nat.beq pc 35) (some (.iastore, 36)) none))) (cond (Nat.blt pc 40) (cond (Nat.blt pc 37) (cond (Nat.beq pc 36) (some (.aload_n 0, 37)) none) (cond (Nat.beq pc 37) (some (.getfield 78, 40)) none)) (cond (Nat.blt pc 41) (cond (Nat.beq pc 40) (some (.iload_n 1, 41)) none) (cond (Nat.beq pc 41) (some (.aload_n 0, 42)) none)))))) (cond (Nat.blt pc 60) (cond (Nat.blt pc 52) (cond (Nat.blt pc 47) (cond (Nat.blt pc 45) (cond (Nat.beq pc 42) (some (.getfield 54, 45)) none) (cond (Nat.blt pc 46) (cond (Nat.beq pc 45) (some (.iload_n 1, 46)) none) (cond (Nat.beq pc 46) (some (.iaload, 47)) none))) (cond (Nat.blt pc 48) (cond (Nat.beq pc 47) (some (.iastore, 48)) none) (cond (Nat.blt pc 49) (cond (Nat.beq pc 48) (some (.aload_n 0, 49)) none) (cond (Nat.beq pc 49) (some (.getfield 81, 52)) none)))) (cond (Nat.blt pc 57) (cond (Nat.blt pc 53) (cond (Nat.beq pc 52) (some (.iload_n 1, 53)) none) (cond (Nat.blt pc 54) (cond (Nat.beq pc 53) (some (.aload_n 0, 54)) none) (cond (Nat.beq pc 54) (some (.getfield 57, 57)) none))) (cond (Nat.blt pc 58) (cond (Nat.beq pc 57) (some (.iload_n 1, 58)) none) (cond (Nat.blt pc 59) (cond (Nat.beq pc 58) (some (.iaload, 59)) none) (cond (Nat.beq pc 59) (some (.iastore, 60)) none))))) (cond (Nat.blt pc 70) (cond (Nat.blt pc 65) (cond (Nat.blt pc 61) (cond (Nat.beq pc 60) (some (.aload_n 0, 61)) none) (cond (Nat.blt pc 64) (cond (Nat.beq pc 61) (some (.getfield 84, 64)) none) (cond (Nat.beq pc 64) (some (.iload_n 1, 65)) none))) (cond (Nat.blt pc 66) (cond (Nat.beq pc 65) (some (.aload_n 0, 66)) none) (cond (Nat.blt pc 69) (cond (Nat.beq pc 66) (some (.getfield 60, 69)) none) (cond (Nat.beq pc 69) (some (.iload_n 1, 70)) none)))) (cond (Nat.blt pc 73) (cond (Nat.blt pc 71) (cond (Nat.beq pc 70) (some (.iaload, 71)) none) (cond (Nat.blt pc 72) (cond (Nat.beq pc 71) (some (.iastore, 72)) none) (cond (Nat.beq pc 72) (some (.aload_n 0, 73)) none))) (cond (Nat.blt pc 77) (cond (Nat.blt pc 76) (cond (Nat.beq pc 73) (some (.getfield 87, 76)) none) (cond (Nat.beq pc 76) (some (.iload_n 1, 77)) none)) (cond (Nat.blt pc 78) (cond (Nat.beq pc 77) (some (.aload_n 0, 78)) none) (cond (Nat.beq pc 78) (some (.getfield 63, 81)) none))))))) (cond (Nat.blt pc 123) (cond (Nat.blt pc 101) (cond (Nat.blt pc 91) (cond (Nat.blt pc 84) (cond (Nat.blt pc 82) (cond (Nat.beq pc 81) (some (.iload_n 1, 82)) none) (cond (Nat.blt pc 83) (cond (Nat.beq pc 82) (some (.iaload, 83)) none) (cond (Nat.beq pc 83) (some (.iastore, 84)) none))) (cond (Nat.blt pc 87) (cond (Nat.beq pc 84) (some (.iinc 1 1, 87)) none) (cond (Nat.blt pc 90) (cond (Nat.beq pc 87) (some (.goto (-69), 18)) none) (cond (Nat.beq pc 90) (some (.iconst 0, 91)) none)))) (cond (Nat.blt pc 94) (cond (Nat.blt pc 92) (cond (Nat.beq pc 91) (some (.istore_n 1, 92)) none) (cond (Nat.blt pc 93) (cond (Nat.beq pc 92) (some (.iload_n 1, 93)) none) (cond (Nat.beq pc 93) (some (.iconst 4, 94)) none))) (cond (Nat.blt pc 97) (cond (Nat.beq pc 94) (some (.if_icmp .ge 21, 115)) none) (cond (Nat.blt pc 98) (cond (Nat.beq pc 97) (some (.aload_n 0, 98)) none) (cond (Nat.beq pc 98) (some (.getfield 90, 101)) none))))) (cond (Nat.blt pc 109) (cond (Nat.blt pc 106) (cond (Nat.blt pc 102) (cond (Nat.beq pc 101) (some (.iload_n 1, 102)) none) (cond (Nat.blt pc 103) (cond (Nat.beq pc 102) (some (.aload_n 0, 103)) none) (cond (Nat.beq pc 103) (some (.getfield 66, 106)) none))) (cond (Nat.blt pc 107) (cond (Nat.beq pc 106) (some (.iload_n 1, 107)) none) (cond (Nat.blt pc 108) (cond (Nat.beq pc 107) (some (.iaload, 108)) none) (cond (Nat.beq pc 108) (some (.iastore, 109)) none)))) (cond (Nat.blt pc 116) (cond (Nat.blt pc 112) (cond (Nat.beq pc 109) (some (.iinc 1 1, 112)) none) (cond (Nat.blt pc 115) (cond (Nat.beq pc 112) (some (.goto (-20), 92)) none) (cond (Nat.beq pc 115) (some (.iconst 0, 116)) none))) (cond (Nat.blt pc 118) (cond (Nat.blt pc 117) (cond (Nat.beq pc 116) (some (.istore_n 1, 117)) none) (cond (Nat.beq pc 117) (some (.iload_n 1, 118)) none)) (cond (Nat.blt pc 120) (cond (Nat.beq pc 118) (some (.bipush 48, 120)) none) (cond (Nat.beq pc 120) (some (.if_icmp .ge 33, 153)) none)))))) (cond (Nat.blt pc 141) (cond (Nat.blt pc 133) (cond (Nat.blt pc 128) (cond (Nat.blt pc 124) (cond (Nat.beq pc 123) (some (.aload_n 0, 124)) none) (cond (Nat.blt pc 127) (cond (Nat.beq pc 124) (some (.getfield 93, 127)) none) (cond (Nat.beq pc 127) (some (.iload_n 1, 128)) none))) (cond (Nat.blt pc 129) (cond (Nat.beq pc 128) (some (.aload_n 0, 129)) none) (cond (Nat.blt pc 132) (cond (Nat.beq pc 129) (some (.getfield 69, 132)) none) (cond (Nat.beq pc 132) (some (.iload_n 1, 133)) none)))) (cond (Nat.blt pc 136) (cond (Nat.blt pc 134) (cond (Nat.beq pc 133) (some (.iaload, 134)) none) (cond (Nat.blt pc 135) (cond (Nat.beq pc 134) (some (.iastore, 135)) none) (cond (Nat.beq pc 135) (some (.aload_n 0, 136)) none))) (cond (Nat.blt pc 139) (cond (Nat.beq pc 136) (some (.getfield 96, 139)) none) (cond (Nat.blt pc 140) (cond (Nat.beq pc 139) (some (.iload_n 1, 140)) none) (cond (Nat.beq pc 140) (some (.aload_n 0, 141)) none))))) (cond (Nat.blt pc 153) (cond (Nat.blt pc 146) (cond (Nat.blt pc 144) (cond (Nat.beq pc 141) (some (.getfield 72, 144)) none) (cond (Nat.blt pc 145) (cond (Nat.beq pc 144) (some (.iload_n 1, 145)) none) (cond (Nat.beq pc 145) (some (.iaload, 146)) none))) (cond (Nat.blt pc 147) (cond (Nat.beq pc 146) (some (.iastore, 147)) none) (cond (Nat.blt pc 150) (cond (Nat.beq pc 147) (some (.iinc 1 1, 150)) none) (cond (Nat.beq pc 150) (some (.goto (-33), 117)) none)))) (cond (Nat.blt pc 158) (cond (Nat.blt pc 154) (cond (Nat.beq pc 153) (some (.aload_n 0, 154)) none) (cond (Nat.blt pc 155) (cond (Nat.beq pc 154) (some (.iconst 0, 155)) none) (cond (Nat.beq pc 155) (some (.putfield 130, 158)) none))) (cond (Nat.blt pc 160) (cond (Nat.blt pc 159) (cond (Nat.beq pc 158) (some (.aload_n 0, 159)) none) (cond (Nat.beq pc 159) (some (.iconst 0, 160)) none)) (cond (Nat.blt pc 163) (cond (Nat.beq pc 160) (some (.putfield 136, 163)) none) (cond (Nat.beq pc 163) (some (.return_, 164)) none)))))))) none
-- CaseDeskModel.putBack()V
def xc_99 : Nat → Option (Instr × Nat) := fun pc => cond (Nat.blt pc 154) (cond (Nat.blt pc 76) (cond (Nat.blt pc 40) (cond (Nat.blt pc 19) (cond (Nat.blt pc 9) (cond (Nat.blt pc 2) (cond (Nat.blt pc 1) (cond (Nat.beq pc 0) (some (.aload_n 0, 1)) none) (cond (Nat.beq pc 1) (some (.aload_n 0, 2)) none)) (cond (Nat.blt pc 5) (cond (Nat.beq pc 2) (some (.getfield 215, 5)) none) (cond (Nat.blt pc 8) (cond (Nat.beq pc 5) (some (.putfield 142, 8)) none) (cond (Nat.beq pc 8) (some (.aload_n 0, 9)) none)))) (cond (Nat.blt pc 16) (cond (Nat.blt pc 10) (cond (Nat.beq pc 9) (some (.aload_n 0, 10)) none) (cond (Nat.blt pc 13) (cond (Nat.beq pc 10) (some (.getfield 218, 13)) none) (cond (Nat.beq pc 13) (some (.putfield 139, 16)) none))) (cond (Nat.blt pc 17) (cond (Nat.beq pc 16) (some (.iconst 0, 17)) none) (cond (Nat.blt pc 18) (cond (Nat.beq pc 17) (some (.istore_n 1, 18)) none) (cond (Nat.beq pc 18) (some (.iload_n 1, 19)) none))))) (cond (Nat.blt pc 30) (cond (Nat.blt pc 25) (cond (Nat.blt pc 21) (cond (Nat.beq pc 19) (some (.bipush 40, 21)) none) (cond (Nat.blt pc 24) (cond (Nat.beq pc 21) (some (.if_icmp .ge 69, 90)) none) (cond (Nat.beq pc 24) (some (.aload_n 0, 25)) none))) (cond (Nat.blt pc 28) (cond (Nat.beq pc 25) (some (.getfield 51, 28)) none) (cond (Nat.blt pc 29) (cond (Nat.beq pc 28) (some (.iload_n 1, 29)) none) (cond (Nat.beq pc 29) (some (.aload_n 0, 30)) none)))) (cond (Nat.blt pc 35) (cond (Nat.blt pc 33) (cond (Nat.beq pc 30) (some (.getfield 75, 33)) none) (cond (Nat.blt pc 34) (cond (Nat.beq pc 33) (some (.iload_n 1, 34)) none) (cond (Nat.beq pc 34) (some (.iaload, 35)) none))) (cond (Nat.blt pc 36) (cond (Nat.beq pc 35) (some (.iastore, 36)) none) (cond (Nat.blt pc 37) (cond (Nat.beq pc 36) (some (.aload_n 0, 37)) none) (cond (Nat.beq pc 37) (some (.getfield 54, 40)) none)))))) (cond (Nat.blt pc 58) (cond (Nat.blt pc 48) (cond (Nat.blt pc 45) (cond (Nat.blt pc 41) (cond (Nat.beq pc 40) (some (.iload_n 1, 41)) none) (cond (Nat.blt pc 42) (cond (Nat.beq pc 41) (some (.aload_n 0, 42)) none) (cond (Nat.beq pc 42) (some (.getfield 78, 45)) none))) (cond (Nat.blt pc 46) (cond (Nat.beq pc 45) (some (.iload_n 1, 46)) none) (cond (Nat.blt pc 47) (cond (Nat.beq pc 46) (some (.iaload, 47)) none) (cond (Nat.beq pc 47) (some (.iastore, 48)) none)))) (cond (Nat.blt pc 53) (cond (Nat.blt pc 49) (cond (Nat.beq pc 48) (some (.aload_n 0, 49)) none) (cond (Nat.blt pc 52) (cond (Nat.beq pc 49) (some (.getfield 57, 52)) none) (cond (Nat.beq pc 52) (some (.iload_n 1, 53)) none))) (cond (Nat.blt pc 54) (cond (Nat.beq pc 53) (some (.aload_n 0, 54)) none) (cond (Nat.blt pc 57) (cond (Nat.beq pc 54) (some (.getfield 81, 57)) none) (cond (Nat.beq pc 57) (some (.iload_n 1, 58)) none))))) (cond (Nat.blt pc 66) (cond (Nat.blt pc 61) (cond (Nat.blt pc 59) (cond (Nat.beq pc 58) (some (.iaload, 59)) none) (cond (Nat.blt pc 60) (cond (Nat.beq pc 59) (some (.iastore, 60)) none) (cond (Nat.beq pc 60) (some (.aload_n 0, 61)) none))) (cond (Nat.blt pc 64) (cond (Nat.beq pc 61) (some (.getfield 60, 64)) none) (cond (Nat.blt pc 65) (cond (Nat.beq pc 64) (some (.iload_n 1, 65)) none) (cond (Nat.beq pc 65) (some (.aload_n 0, 66)) none)))) (cond (Nat.blt pc 71) (cond (Nat.blt pc 69) (cond (Nat.beq pc 66) (some (.getfield 84, 69)) none) (cond (Nat.blt pc 70) (cond (Nat.beq pc 69) (some (.iload_n 1, 70)) none) (cond (Nat.beq pc 70) (some (.iaload, 71)) none))) (cond (Nat.blt pc 72) (cond (Nat.beq pc 71) (some (.iastore, 72)) none) (cond (Nat.blt pc 73) (cond (Nat.beq pc 72) (some (.aload_n 0, 73)) none) (cond (Nat.beq pc 73) (some (.getfield 63, 76)) none))))))) (cond (Nat.blt pc 115) (cond (Nat.blt pc 93) (cond (Nat.blt pc 83) (cond (Nat.blt pc 78) (cond (Nat.blt pc 77) (cond (Nat.beq pc 76) (some (.iload_n 1, 77)) none) (cond (Nat.beq pc 77) (some (.aload_n 0, 78)) none)) (cond (Nat.blt pc 81) (cond (Nat.beq pc 78) (some (.getfield 87, 81)) none) (cond (Nat.blt pc 82) (cond (Nat.beq pc 81) (some (.iload_n 1, 82)) none) (cond (Nat.beq pc 82) (some (.iaload, 83)) none)))) (cond (Nat.blt pc 90) (cond (Nat.blt pc 84) (cond (Nat.beq pc 83) (some (.iastore, 84)) none) (cond (Nat.blt pc 87) (cond (Nat.beq pc 84) (some (.iinc 1 1, 87)) none) (cond (Nat.beq pc 87) (some (.goto (-69), 18)) none))) (cond (Nat.blt pc 91) (cond (Nat.beq pc 90) (some (.iconst 0, 91)) none) (cond (Nat.blt pc 92) (cond (Nat.beq pc 91) (some (.istore_n 1, 92)) none) (cond (Nat.beq pc 92) (some (.iload_n 1, 93)) none))))) (cond (Nat.blt pc 103) (cond (Nat.blt pc 98) (cond (Nat.blt pc 94) (cond (Nat.beq pc 93) (some (.iconst 4, 94)) none) (cond (Nat.blt pc 97) (cond (Nat.beq pc 94) (some (.if_icmp .ge 21, 115)) none) (cond (Nat.beq pc 97) (some (.aload_n 0, 98)) none))) (cond (Nat.blt pc 101) (cond (Nat.beq pc 98) (some (.getfield 66, 101)) none) (cond (Nat.blt pc 102) (cond (Nat.beq pc 101) (some (.iload_n 1, 102)) none) (cond (Nat.beq pc 102) (some (.aload_n 0, 103)) none)))) (cond (Nat.blt pc 108) (cond (Nat.blt pc 106) (cond (Nat.beq pc 103) (some (.getfield 90, 106)) none) (cond (Nat.blt pc 107) (cond (Nat.beq pc 106) (some (.iload_n 1, 107)) none) (cond (Nat.beq pc 107) (some (.iaload, 108)) none))) (cond (Nat.blt pc 109) (cond (Nat.beq pc 108) (some (.iastore, 109)) none) (cond (Nat.blt pc 112) (cond (Nat.beq pc 109) (some (.iinc 1 1, 112)) none) (cond (Nat.beq pc 112) (some (.goto (-20), 92)) none)))))) (cond (Nat.blt pc 134) (cond (Nat.blt pc 124) (cond (Nat.blt pc 118) (cond (Nat.blt pc 116) (cond (Nat.beq pc 115) (some (.iconst 0, 116)) none) (cond (Nat.blt pc 117) (cond (Nat.beq pc 116) (some (.istore_n 1, 117)) none) (cond (Nat.beq pc 117) (some (.iload_n 1, 118)) none))) (cond (Nat.blt pc 120) (cond (Nat.beq pc 118) (some (.bipush 48, 120)) none) (cond (Nat.blt pc 123) (cond (Nat.beq pc 120) (some (.if_icmp .ge 33, 153)) none) (cond (Nat.beq pc 123) (some (.aload_n 0, 124)) none)))) (cond (Nat.blt pc 129) (cond (Nat.blt pc 127) (cond (Nat.beq pc 124) (some (.getfield 69, 127)) none) (cond (Nat.blt pc 128) (cond (Nat.beq pc 127) (some (.iload_n 1, 128)) none) (cond (Nat.beq pc 128) (some (.aload_n 0, 129)) none))) (cond (Nat.blt pc 132) (cond (Nat.beq pc 129) (some (.getfield 93, 132)) none) (cond (Nat.blt pc 133) (cond (Nat.beq pc 132) (some (.iload_n 1, 133)) none) (cond (Nat.beq pc 133) (some (.iaload, 134)) none))))) (cond (Nat.blt pc 144) (cond (Nat.blt pc 139) (cond (Nat.blt pc 135) (cond (Nat.beq pc 134) (some (.iastore, 135)) none) (cond (Nat.blt pc 136) (cond (Nat.beq pc 135) (some (.aload_n 0, 136)) none) (cond (Nat.beq pc 136) (some (.getfield 72, 139)) none))) (cond (Nat.blt pc 140) (cond (Nat.beq pc 139) (some (.iload_n 1, 140)) none) (cond (Nat.blt pc 141) (cond (Nat.beq pc 140) (some (.aload_n 0, 141)) none) (cond (Nat.beq pc 141) (some (.getfield 96, 144)) none)))) (cond (Nat.blt pc 147) (cond (Nat.blt pc 145) (cond (Nat.beq pc 144) (some (.iload_n 1, 145)) none) (cond (Nat.blt pc 146) (cond (Nat.beq pc 145) (some (.iaload, 146)) none) (cond (Nat.beq pc 146) (some (.iastore, 147)) none))) (cond (Nat.blt pc 150) (cond (Nat.beq pc 147) (some (.iinc 1 1, 150)) none) (cond (Nat.blt pc 153) (cond (Nat.beq pc 150) (some (.goto (-33), 117)) none) (cond (Nat.beq pc 153) (some (.return_, 154)) none)))))))) none
-- CaseDeskModel.finish(I)I
def xc_100 : Nat → Option (Instr × Nat) := fun pc => cond (Nat.blt pc 26) (cond (Nat.blt pc 15) (cond (Nat.blt pc 5) (cond (Nat.blt pc 1) (cond (Nat.beq pc 0) (some (.aload_n 0, 1)) none) (cond (Nat.blt pc 4) (cond (Nat.beq pc 1) (some (.invokevirtual 221, 4)) none) (cond (Nat.beq pc 4) (some (.aload_n 0, 5)) none))) (cond (Nat.blt pc 11) (cond (Nat.blt pc 8) (cond (Nat.beq pc 5) (some (.getfield 136, 8)) none) (cond (Nat.beq pc 8) (some (.ifCond .ne 8, 16)) none)) (cond (Nat.blt pc 12) (cond (Nat.beq pc 11) (some (.aload_n 0, 12)) none) (cond (Nat.beq pc 12) (some (.getfield 130, 15)) none)))) (cond (Nat.blt pc 20) (cond (Nat.blt pc 16) (cond (Nat.beq pc 15) (some (.ireturn, 16)) none) (cond (Nat.blt pc 17) (cond (Nat.beq pc 16) (some (.aload_n 0, 17)) none) (cond (Nat.beq pc 17) (some (.invokevirtual 224, 20)) none))) (cond (Nat.blt pc 22) (cond (Nat.blt pc 21) (cond (Nat.beq pc 20) (some (.aload_n 0, 21)) none) (cond (Nat.beq pc 21) (some (.iload_n 1, 22)) none)) (cond (Nat.blt pc 25) (cond (Nat.beq pc 22) (some (.invokevirtual 115, 25)) none) (cond (Nat.beq pc 25) (some (.ireturn, 26)) none))))) none
-- CaseDeskModel.begin(I)I
def xc_101 : Nat → Option (Instr × Nat) := fun pc => cond (Nat.blt pc 80) (cond (Nat.blt pc 40) (cond (Nat.blt pc 19) (cond (Nat.blt pc 9) (cond (Nat.blt pc 2) (cond (Nat.blt pc 1) (cond (Nat.beq pc 0) (some (.aload_n 0, 1)) none) (cond (Nat.beq pc 1) (some (.iconst 0, 2)) none)) (cond (Nat.blt pc 5) (cond (Nat.beq pc 2) (some (.putfield 108, 5)) none) (cond (Nat.blt pc 6) (cond (Nat.beq pc 5) (some (.aload_n 0, 6)) none) (cond (Nat.beq pc 6) (some (.getfield 111, 9)) none)))) (cond (Nat.blt pc 14) (cond (Nat.blt pc 12) (cond (Nat.beq pc 9) (some (.ifCond .eq 9, 18)) none) (cond (Nat.blt pc 13) (cond (Nat.beq pc 12) (some (.aload_n 0, 13)) none) (cond (Nat.beq pc 13) (some (.iconst 1, 14)) none))) (cond (Nat.blt pc 17) (cond (Nat.beq pc 14) (some (.invokevirtual 115, 17)) none) (cond (Nat.blt pc 18) (cond (Nat.beq pc 17) (some (.ireturn, 18)) none) (cond (Nat.beq pc 18) (some (.iload_n 1, 19)) none))))) (cond (Nat.blt pc 30) (cond (Nat.blt pc 24) (cond (Nat.blt pc 20) (cond (Nat.beq pc 19) (some (.iconst 2, 20)) none) (cond (Nat.blt pc 23) (cond (Nat.beq pc 20) (some (.if_icmp .lt 9, 29)) none) (cond (Nat.beq pc 23) (some (.iload_n 1, 24)) none))) (cond (Nat.blt pc 26) (cond (Nat.beq pc 24) (some (.bipush 60, 26)) none) (cond (Nat.blt pc 29) (cond (Nat.beq pc 26) (some (.if_icmp .le 9, 35)) none) (cond (Nat.beq pc 29) (some (.aload_n 0, 30)) none)))) (cond (Nat.blt pc 35) (cond (Nat.blt pc 31) (cond (Nat.beq pc 30) (some (.iconst 2, 31)) none) (cond (Nat.blt pc 34) (cond (Nat.beq pc 31) (some (.invokevirtual 115, 34)) none) (cond (Nat.beq pc 34) (some (.ireturn, 35)) none))) (cond (Nat.blt pc 36) (cond (Nat.beq pc 35) (some (.aload_n 0, 36)) none) (cond (Nat.blt pc 37) (cond (Nat.beq pc 36) (some (.iload_n 1, 37)) none) (cond (Nat.beq pc 37) (some (.putfield 133, 40)) none)))))) (cond (Nat.blt pc 58) (cond (Nat.blt pc 50) (cond (Nat.blt pc 45) (cond (Nat.blt pc 41) (cond (Nat.beq pc 40) (some (.aload_n 0, 41)) none) (cond (Nat.blt pc 44) (cond (Nat.beq pc 41) (some (.invokevirtual 227, 44)) none) (cond (Nat.beq pc 44) (some (.aload_n 0, 45)) none))) (cond (Nat.blt pc 46) (cond (Nat.beq pc 45) (some (.iconst 0, 46)) none) (cond (Nat.blt pc 47) (cond (Nat.beq pc 46) (some (.iconst (-1), 47)) none) (cond (Nat.beq pc 47) (some (.invokevirtual 161, 50)) none)))) (cond (Nat.blt pc 53) (cond (Nat.blt pc 51) (cond (Nat.beq pc 50) (some (.aload_n 0, 51)) none) (cond (Nat.blt pc 52) (cond (Nat.beq pc 51) (some (.iconst 0, 52)) none) (cond (Nat.beq pc 52) (some (.iconst 2, 53)) none))) (cond (Nat.blt pc 56) (cond (Nat.beq pc 53) (some (.invokevirtual 198, 56)) none) (cond (Nat.blt pc 57) (cond (Nat.beq pc 56) (some (.aload_n 0, 57)) none) (cond (Nat.beq pc 57) (some (.iconst 3, 58)) none))))) (cond (Nat.blt pc 70) (cond (Nat.blt pc 63) (cond (Nat.blt pc 61) (cond (Nat.beq pc 58) (some (.invokevirtual 230, 61)) none) (cond (Nat.blt pc 62) (cond (Nat.beq pc 61) (some (.istore_n 2, 62)) none) (cond (Nat.beq pc 62) (some (.aload_n 0, 63)) none))) (cond (Nat.blt pc 64) (cond (Nat.beq pc 63) (some (.aload_n 0, 64)) none) (cond (Nat.blt pc 67) (cond (Nat.beq pc 64) (some (.getfield 136, 67)) none) (cond (Nat.beq pc 67) (some (.ifCond .ne 7, 74)) none)))) (cond (Nat.blt pc 75) (cond (Nat.blt pc 71) (cond (Nat.beq pc 70) (some (.iconst 1, 71)) none) (cond (Nat.blt pc 74) (cond (Nat.beq pc 71) (some (.goto 4, 75)) none) (cond (Nat.beq pc 74) (some (.iconst 0, 75)) none))) (cond (Nat.blt pc 78) (cond (Nat.beq pc 75) (some (.putfield 111, 78)) none) (cond (Nat.blt pc 79) (cond (Nat.beq pc 78) (some (.iload_n 2, 79)) none) (cond (Nat.beq pc 79) (some (.ireturn, 80)) none))))))) none
-- CaseDeskModel.allowed(II)Z
def xc_102 : Nat → Option (Instr × Nat) := fun pc => cond (Nat.blt pc 217) (cond (Nat.blt pc 128) (cond (Nat.blt pc 82) (cond (Nat.blt pc 19) (cond (Nat.blt pc 10) (cond (Nat.blt pc 5) (cond (Nat.blt pc 1) (cond (Nat.beq pc 0) (some (.aload_n 0, 1)) none) (cond (Nat.blt pc 2) (cond (Nat.beq pc 1) (some (.iload_n 1, 2)) none) (cond (Nat.beq pc 2) (some (.invokevirtual 158, 5)) none))) (cond (Nat.blt pc 6) (cond (Nat.beq pc 5) (some (.istore_n 3, 6)) none) (cond (Nat.blt pc 7) (cond (Nat.beq pc 6) (some (.aload_n 0, 7)) none) (cond (Nat.beq pc 7) (some (.getfield 57, 10)) none)))) (cond (Nat.blt pc 14) (cond (Nat.blt pc 11) (cond (Nat.beq pc 10) (some (.iload_n 1, 11)) none) (cond (Nat.blt pc 12) (cond (Nat.beq pc 11) (some (.iaload, 12)) none) (cond (Nat.beq pc 12) (some (.istore 4, 14)) none))) (cond (Nat.blt pc 15) (cond (Nat.beq pc 14) (some (.aload_n 0, 15)) none) (cond (Nat.blt pc 18) (cond (Nat.beq pc 15) (some (.getfield 54, 18)) none) (cond (Nat.beq pc 18) (some (.iload_n 1, 19)) none))))) (cond (Nat.blt pc 31) (cond (Nat.blt pc 24) (cond (Nat.blt pc 20) (cond (Nat.beq pc 19) (some (.iaload, 20)) none) (cond (Nat.blt pc 23) (cond (Nat.beq pc 20) (some (.ifCond .lt 13, 33)) none) (cond (Nat.beq pc 23) (some (.aload_n 0, 24)) none))) (cond (Nat.blt pc 25) (cond (Nat.beq pc 24) (some (.iload_n 1, 25)) none) (cond (Nat.blt pc 28) (cond (Nat.beq pc 25) (some (.invokevirtual 176, 28)) none) (cond (Nat.beq pc 28) (some (.ifCond .ne 5, 33)) none)))) (cond (Nat.blt pc 34) (cond (Nat.blt pc 32) (cond (Nat.beq pc 31) (some (.iconst 0, 32)) none) (cond (Nat.blt pc 33) (cond (Nat.beq pc 32) (some (.ireturn, 33)) none) (cond (Nat.beq pc 33) (some (.iload_n 2, 34)) none))) (cond (Nat.blt pc 78) (cond (Nat.blt pc 76) (cond (Nat.beq pc 34) (some (.tableswitch 169 2 8 #[42, 54, 70, 100, 117, 134, 151], 76)) none) (cond (Nat.beq pc 76) (some (.iload 4, 78)) none)) (cond (Nat.blt pc 79) (cond (Nat.beq pc 78) (some (.iconst 1, 79)) none) (cond (Nat.beq pc 79) (some (.if_icmp .ne 7, 86)) none)))))) (cond (Nat.blt pc 104) (cond (Nat.blt pc 90) (cond (Nat.blt pc 87) (cond (Nat.blt pc 83) (cond (Nat.beq pc 82) (some (.iconst 1, 83)) none) (cond (Nat.blt pc 86) (cond (Nat.beq pc 83) (some (.goto 4, 87)) none) (cond (Nat.beq pc 86) (some (.iconst 0, 87)) none))) (cond (Nat.blt pc 88) (cond (Nat.beq pc 87) (some (.ireturn, 88)) none) (cond (Nat.blt pc 89) (cond (Nat.beq pc 88) (some (.iload_n 3, 89)) none) (cond (Nat.beq pc 89) (some (.iconst 3, 90)) none)))) (cond (Nat.blt pc 98) (cond (Nat.blt pc 93) (cond (Nat.beq pc 90) (some (.if_icmp .ne 12, 102)) none) (cond (Nat.blt pc 95) (cond (Nat.beq pc 93) (some (.iload 4, 95)) none) (cond (Nat.beq pc 95) (some (.ifCond .ne 7, 102)) none))) (cond (Nat.blt pc 102) (cond (Nat.blt pc 99) (cond (Nat.beq pc 98) (some (.iconst 1, 99)) none) (cond (Nat.beq pc 99) (some (.goto 4, 103)) none)) (cond (Nat.blt pc 103) (cond (Nat.beq pc 102) (some (.iconst 0, 103)) none) (cond (Nat.beq pc 103) (some (.ireturn, 104)) none))))) (cond (Nat.blt pc 115) (cond (Nat.blt pc 109) (cond (Nat.blt pc 105) (cond (Nat.beq pc 104) (some (.iload_n 3, 105)) none) (cond (Nat.blt pc 106) (cond (Nat.beq pc 105) (some (.iconst 2, 106)) none) (cond (Nat.beq pc 106) (some (.if_icmp .ge 26, 132)) none))) (cond (Nat.blt pc 111) (cond (Nat.beq pc 109) (some (.iload 4, 111)) none) (cond (Nat.blt pc 112) (cond (Nat.beq pc 111) (some (.iconst 2, 112)) none) (cond (Nat.beq pc 112) (some (.if_icmp .ne 20, 132)) none)))) (cond (Nat.blt pc 120) (cond (Nat.blt pc 116) (cond (Nat.beq pc 115) (some (.iload_n 3, 116)) none) (cond (Nat.blt pc 117) (cond (Nat.beq pc 116) (some (.iconst 1, 117)) none) (cond (Nat.beq pc 117) (some (.if_icmp .eq 11, 128)) none))) (cond (Nat.blt pc 122) (cond (Nat.blt pc 121) (cond (Nat.beq pc 120) (some (.aload_n 0, 121)) none) (cond (Nat.beq pc 121) (some (.iload_n 1, 122)) none)) (cond (Nat.blt pc 125) (cond (Nat.beq pc 122) (some (.invokevirtual 188, 125)) none) (cond (Nat.beq pc 125) (some (.ifCond .eq 7, 132)) none))))))) (cond (Nat.blt pc 170) (cond (Nat.blt pc 150) (cond (Nat.blt pc 136) (cond (Nat.blt pc 133) (cond (Nat.blt pc 129) (cond (Nat.beq pc 128) (some (.iconst 1, 129)) none) (cond (Nat.blt pc 132) (cond (Nat.beq pc 129) (some (.goto 4, 133)) none) (cond (Nat.beq pc 132) (some (.iconst 0, 133)) none))) (cond (Nat.blt pc 134) (cond (Nat.beq pc 133) (some (.ireturn, 134)) none) (cond (Nat.blt pc 135) (cond (Nat.beq pc 134) (some (.iload_n 3, 135)) none) (cond (Nat.beq pc 135) (some (.iconst 2, 136)) none)))) (cond (Nat.blt pc 142) (cond (Nat.blt pc 139) (cond (Nat.beq pc 136) (some (.if_icmp .ge 13, 149)) none) (cond (Nat.blt pc 141) (cond (Nat.beq pc 139) (some (.iload 4, 141)) none) (cond (Nat.beq pc 141) (some (.iconst 2, 142)) none))) (cond (Nat.blt pc 146) (cond (Nat.blt pc 145) (cond (Nat.beq pc 142) (some (.if_icmp .ne 7, 149)) none) (cond (Nat.beq pc 145) (some (.iconst 1, 146)) none)) (cond (Nat.blt pc 149) (cond (Nat.beq pc 146) (some (.goto 4, 150)) none) (cond (Nat.beq pc 149) (some (.iconst 0, 150)) none))))) (cond (Nat.blt pc 159) (cond (Nat.blt pc 153) (cond (Nat.blt pc 151) (cond (Nat.beq pc 150) (some (.ireturn, 151)) none) (cond (Nat.blt pc 152) (cond (Nat.beq pc 151) (some (.iload_n 3, 152)) none) (cond (Nat.beq pc 152) (some (.iconst 2, 153)) none))) (cond (Nat.blt pc 156) (cond (Nat.beq pc 153) (some (.if_icmp .ge 13, 166)) none) (cond (Nat.blt pc 158) (cond (Nat.beq pc 156) (some (.iload 4, 158)) none) (cond (Nat.beq pc 158) (some (.iconst 3, 159)) none)))) (cond (Nat.blt pc 166) (cond (Nat.blt pc 162) (cond (Nat.beq pc 159) (some (.if_icmp .ne 7, 166)) none) (cond (Nat.blt pc 163) (cond (Nat.beq pc 162) (some (.iconst 1, 163)) none) (cond (Nat.beq pc 163) (some (.goto 4, 167)) none))) (cond (Nat.blt pc 168) (cond (Nat.blt pc 167) (cond (Nat.beq pc 166) (some (.iconst 0, 167)) none) (cond (Nat.beq pc 167) (some (.ireturn, 168)) none)) (cond (Nat.blt pc 169) (cond (Nat.beq pc 168) (some (.iload_n 3, 169)) none) (cond (Nat.beq pc 169) (some (.iconst 1, 170)) none)))))) (cond (Nat.blt pc 194) (cond (Nat.blt pc 183) (cond (Nat.blt pc 176) (cond (Nat.blt pc 173) (cond (Nat.beq pc 170) (some (.if_icmp .ne 13, 183)) none) (cond (Nat.blt pc 175) (cond (Nat.beq pc 173) (some (.iload 4, 175)) none) (cond (Nat.beq pc 175) (some (.iconst 2, 176)) none))) (cond (Nat.blt pc 179) (cond (Nat.beq pc 176) (some (.if_icmp .ne 7, 183)) none) (cond (Nat.blt pc 180) (cond (Nat.beq pc 179) (some (.iconst 1, 180)) none) (cond (Nat.beq pc 180) (some (.goto 4, 184)) none)))) (cond (Nat.blt pc 186) (cond (Nat.blt pc 184) (cond (Nat.beq pc 183) (some (.iconst 0, 184)) none) (cond (Nat.blt pc 185) (cond (Nat.beq pc 184) (some (.ireturn, 185)) none) (cond (Nat.beq pc 185) (some (.iload_n 3, 186)) none))) (cond (Nat.blt pc 190) (cond (Nat.blt pc 187) (cond (Nat.beq pc 186) (some (.iconst 1, 187)) none) (cond (Nat.beq pc 187) (some (.if_icmp .ne 14, 201)) none)) (cond (Nat.blt pc 192) (cond (Nat.beq pc 190) (some (.iload 4, 192)) none) (cond (Nat.beq pc 192) (some (.bipush 6, 194)) none))))) (cond (Nat.blt pc 204) (cond (Nat.blt pc 201) (cond (Nat.blt pc 197) (cond (Nat.beq pc 194) (some (.if_icmp .ne 7, 201)) none) (cond (Nat.blt pc 198) (cond (Nat.beq pc 197) (some (.iconst 1, 198)) none) (cond (Nat.beq pc 198) (some (.goto 4, 202)) none))) (cond (Nat.blt pc 202) (cond (Nat.beq pc 201) (some (.iconst 0, 202)) none) (cond (Nat.blt pc 203) (cond (Nat.beq pc 202) (some (.ireturn, 203)) none) (cond (Nat.beq pc 203) (some (.aload_n 0, 204)) none)))) (cond (Nat.blt pc 211) (cond (Nat.blt pc 205) (cond (Nat.beq pc 204) (some (.iload_n 1, 205)) none) (cond (Nat.blt pc 208) (cond (Nat.beq pc 205) (some (.invokevirtual 145, 208)) none) (cond (Nat.beq pc 208) (some (.ifCond .ne 7, 215)) none))) (cond (Nat.blt pc 215) (cond (Nat.blt pc 212) (cond (Nat.beq pc 211) (some (.iconst 1, 212)) none) (cond (Nat.beq pc 212) (some (.goto 4, 216)) none)) (cond (Nat.blt pc 216) (cond (Nat.beq pc 215) (some (.iconst 0, 216)) none) (cond (Nat.beq pc 216) (some (.ireturn, 217)) none)))))))) none
-- CaseDeskModel.refusal(II)I
def xc_103 : Nat → Option (Instr × Nat) := fun pc => cond (Nat.blt pc 49) (cond (Nat.blt pc 26) (cond (Nat.blt pc 13) (cond (Nat.blt pc 7) (cond (Nat.blt pc 1) (cond (Nat.beq pc 0) (some (.aload_n 0, 1)) none) (cond (Nat.blt pc 4) (cond (Nat.beq pc 1) (some (.getfield 111, 4)) none) (cond (Nat.beq pc 4) (some (.ifCond .eq 15, 19)) none))) (cond (Nat.blt pc 11) (cond (Nat.blt pc 8) (cond (Nat.beq pc 7) (some (.iload_n 1, 8)) none) (cond (Nat.beq pc 8) (some (.ifCond .lt 11, 19)) none)) (cond (Nat.blt pc 12) (cond (Nat.beq pc 11) (some (.iload_n 1, 12)) none) (cond (Nat.beq pc 12) (some (.aload_n 0, 13)) none)))) (cond (Nat.blt pc 20) (cond (Nat.blt pc 16) (cond (Nat.beq pc 13) (some (.getfield 142, 16)) none) (cond (Nat.blt pc 19) (cond (Nat.beq pc 16) (some (.if_icmp .lt 5, 21)) none) (cond (Nat.beq pc 19) (some (.iconst 1, 20)) none))) (cond (Nat.blt pc 22) (cond (Nat.blt pc 21) (cond (Nat.beq pc 20) (some (.ireturn, 21)) none) (cond (Nat.beq pc 21) (some (.iload_n 2, 22)) none)) (cond (Nat.blt pc 23) (cond (Nat.beq pc 22) (some (.iconst 2, 23)) none) (cond (Nat.beq pc 23) (some (.if_icmp .lt 9, 32)) none))))) (cond (Nat.blt pc 36) (cond (Nat.blt pc 32) (cond (Nat.blt pc 27) (cond (Nat.beq pc 26) (some (.iload_n 2, 27)) none) (cond (Nat.blt pc 29) (cond (Nat.beq pc 27) (some (.bipush 9, 29)) none) (cond (Nat.beq pc 29) (some (.if_icmp .le 5, 34)) none))) (cond (Nat.blt pc 34) (cond (Nat.blt pc 33) (cond (Nat.beq pc 32) (some (.iconst 2, 33)) none) (cond (Nat.beq pc 33) (some (.ireturn, 34)) none)) (cond (Nat.blt pc 35) (cond (Nat.beq pc 34) (some (.aload_n 0, 35)) none) (cond (Nat.beq pc 35) (some (.iload_n 1, 36)) none)))) (cond (Nat.blt pc 43) (cond (Nat.blt pc 37) (cond (Nat.beq pc 36) (some (.iload_n 2, 37)) none) (cond (Nat.blt pc 40) (cond (Nat.beq pc 37) (some (.invokevirtual 233, 40)) none) (cond (Nat.beq pc 40) (some (.ifCond .eq 7, 47)) none))) (cond (Nat.blt pc 47) (cond (Nat.blt pc 44) (cond (Nat.beq pc 43) (some (.iconst 0, 44)) none) (cond (Nat.beq pc 44) (some (.goto 4, 48)) none)) (cond (Nat.blt pc 48) (cond (Nat.beq pc 47) (some (.iconst 3, 48)) none) (cond (Nat.beq pc 48) (some (.ireturn, 49)) none)))))) none
-- CaseDeskModel.move(II)I
def xc_104 : Nat → Option (Instr × Nat) := fun pc => cond (Nat.blt pc 35) (cond (Nat.blt pc 18) (cond (Nat.blt pc 7) (cond (Nat.blt pc 2) (cond (Nat.blt pc 1) (cond (Nat.beq pc 0) (some (.aload_n 0, 1)) none) (cond (Nat.beq pc 1) (some (.aload_n 0, 2)) none)) (cond (Nat.blt pc 3) (cond (Nat.beq pc 2) (some (.iload_n 1, 3)) none) (cond (Nat.blt pc 4) (cond (Nat.beq pc 3) (some (.iload_n 2, 4)) none) (cond (Nat.beq pc 4) (some (.invokevirtual 236, 7)) none)))) (cond (Nat.blt pc 11) (cond (Nat.blt pc 10) (cond (Nat.beq pc 7) (some (.putfield 108, 10)) none) (cond (Nat.beq pc 10) (some (.aload_n 0, 11)) none)) (cond (Nat.blt pc 14) (cond (Nat.beq pc 11) (some (.getfield 108, 14)) none) (cond (Nat.blt pc 17) (cond (Nat.beq pc 14) (some (.ifCond .eq 5, 19)) none) (cond (Nat.beq pc 17) (some (.iconst 0, 18)) none))))) (cond (Nat.blt pc 25) (cond (Nat.blt pc 20) (cond (Nat.blt pc 19) (cond (Nat.beq pc 18) (some (.ireturn, 19)) none) (cond (Nat.beq pc 19) (some (.aload_n 0, 20)) none)) (cond (Nat.blt pc 23) (cond (Nat.beq pc 20) (some (.invokevirtual 227, 23)) none) (cond (Nat.blt pc 24) (cond (Nat.beq pc 23) (some (.aload_n 0, 24)) none) (cond (Nat.beq pc 24) (some (.iload_n 1, 25)) none)))) (cond (Nat.blt pc 30) (cond (Nat.blt pc 26) (cond (Nat.beq pc 25) (some (.iload_n 2, 26)) none) (cond (Nat.blt pc 29) (cond (Nat.beq pc 26) (some (.invokevirtual 198, 29)) none) (cond (Nat.beq pc 29) (some (.aload_n 0, 30)) none))) (cond (Nat.blt pc 31) (cond (Nat.beq pc 30) (some (.iconst 4, 31)) none) (cond (Nat.blt pc 34) (cond (Nat.beq pc 31) (some (.invokevirtual 230, 34)) none) (cond (Nat.beq pc 34) (some (.ireturn, 35)) none)))))) none
-- CaseDeskModel.can(II)Z
def xc_105 : Nat → Option (Instr × Nat) := fun pc => cond (Nat.blt pc 20) (cond (Nat.blt pc 8) (cond (Nat.blt pc 5) (cond (Nat.blt pc 1) (cond (Nat.beq pc 0) (some (.aload_n 0, 1)) none) (cond (Nat.blt pc 2) (cond (Nat.beq pc 1) (some (.iconst 0, 2)) none) (cond (Nat.beq pc 2) (some (.putfield 108, 5)) none))) (cond (Nat.blt pc 6) (cond (Nat.beq pc 5) (some (.aload_n 0, 6)) none) (cond (Nat.blt pc 7) (cond (Nat.beq pc 6) (some (.iload_n 1, 7)) none) (cond (Nat.beq pc 7) (some (.iload_n 2, 8)) none)))) (cond (Nat.blt pc 15) (cond (Nat.blt pc 11) (cond (Nat.beq pc 8) (some (.invokevirtual 236, 11)) none) (cond (Nat.blt pc 14) (cond (Nat.beq pc 11) (some (.ifCond .ne 7, 18)) none) (cond (Nat.beq pc 14) (some (.iconst 1, 15)) none))) (cond (Nat.blt pc 18) (cond (Nat.beq pc 15) (some (.goto 4, 19)) none) (cond (Nat.blt pc 19) (cond (Nat.beq pc 18) (some (.iconst 0, 19)) none) (cond (Nat.beq pc 19) (some (.ireturn, 20)) none))))) none
-- CaseDeskModel.markVariable(I)V
def xc_106 : Nat → Option (Instr × Nat) := fun pc => cond (Nat.blt pc 121) (cond (Nat.blt pc 63) (cond (Nat.blt pc 31) (cond (Nat.blt pc 12) (cond (Nat.blt pc 4) (cond (Nat.blt pc 2) (cond (Nat.blt pc 1) (cond (Nat.beq pc 0) (some (.iconst 0, 1)) none) (cond (Nat.beq pc 1) (some (.istore_n 2, 2)) none)) (cond (Nat.blt pc 3) (cond (Nat.beq pc 2) (some (.iload_n 2, 3)) none) (cond (Nat.beq pc 3) (some (.aload_n 0, 4)) none))) (cond (Nat.blt pc 10) (cond (Nat.blt pc 7) (cond (Nat.beq pc 4) (some (.getfield 142, 7)) none) (cond (Nat.beq pc 7) (some (.if_icmp .ge 113, 120)) none)) (cond (Nat.blt pc 11) (cond (Nat.beq pc 10) (some (.aload_n 0, 11)) none) (cond (Nat.beq pc 11) (some (.iload_n 2, 12)) none)))) (cond (Nat.blt pc 22) (cond (Nat.blt pc 18) (cond (Nat.blt pc 15) (cond (Nat.beq pc 12) (some (.invokevirtual 145, 15)) none) (cond (Nat.beq pc 15) (some (.ifCond .eq 6, 21)) none)) (cond (Nat.blt pc 21) (cond (Nat.beq pc 18) (some (.goto 96, 114)) none) (cond (Nat.beq pc 21) (some (.iconst 0, 22)) none))) (cond (Nat.blt pc 24) (cond (Nat.blt pc 23) (cond (Nat.beq pc 22) (some (.istore_n 3, 23)) none) (cond (Nat.beq pc 23) (some (.iload_n 3, 24)) none)) (cond (Nat.blt pc 25) (cond (Nat.beq pc 24) (some (.aload_n 0, 25)) none) (cond (Nat.blt pc 28) (cond (Nat.beq pc 25) (some (.getfield 123, 28)) none) (cond (Nat.beq pc 28) (some (.if_icmp .ge 86, 114)) none)))))) (cond (Nat.blt pc 46) (cond (Nat.blt pc 37) (cond (Nat.blt pc 35) (cond (Nat.blt pc 32) (cond (Nat.beq pc 31) (some (.aload_n 0, 32)) none) (cond (Nat.beq pc 32) (some (.getfield 23, 35)) none)) (cond (Nat.blt pc 36) (cond (Nat.beq pc 35) (some (.iload_n 3, 36)) none) (cond (Nat.beq pc 36) (some (.iaload, 37)) none))) (cond (Nat.blt pc 41) (cond (Nat.blt pc 38) (cond (Nat.beq pc 37) (some (.aload_n 0, 38)) none) (cond (Nat.beq pc 38) (some (.getfield 51, 41)) none)) (cond (Nat.blt pc 42) (cond (Nat.beq pc 41) (some (.iload_n 2, 42)) none) (cond (Nat.blt pc 43) (cond (Nat.beq pc 42) (some (.iaload, 43)) none) (cond (Nat.beq pc 43) (some (.if_icmp .eq 6, 49)) none))))) (cond (Nat.blt pc 54) (cond (Nat.blt pc 50) (cond (Nat.blt pc 49) (cond (Nat.beq pc 46) (some (.goto 62, 108)) none) (cond (Nat.beq pc 49) (some (.iconst 0, 50)) none)) (cond (Nat.blt pc 52) (cond (Nat.beq pc 50) (some (.istore 4, 52)) none) (cond (Nat.beq pc 52) (some (.iload 4, 54)) none))) (cond (Nat.blt pc 58) (cond (Nat.blt pc 55) (cond (Nat.beq pc 54) (some (.aload_n 0, 55)) none) (cond (Nat.beq pc 55) (some (.getfield 30, 58)) none)) (cond (Nat.blt pc 59) (cond (Nat.beq pc 58) (some (.iload_n 3, 59)) none) (cond (Nat.blt pc 60) (cond (Nat.beq pc 59) (some (.iaload, 60)) none) (cond (Nat.beq pc 60) (some (.if_icmp .ge 48, 108)) none))))))) (cond (Nat.blt pc 90) (cond (Nat.blt pc 74) (cond (Nat.blt pc 69) (cond (Nat.blt pc 67) (cond (Nat.blt pc 64) (cond (Nat.beq pc 63) (some (.aload_n 0, 64)) none) (cond (Nat.beq pc 64) (some (.getfield 33, 67)) none)) (cond (Nat.blt pc 68) (cond (Nat.beq pc 67) (some (.iconst 2, 68)) none) (cond (Nat.beq pc 68) (some (.iload_n 3, 69)) none))) (cond (Nat.blt pc 72) (cond (Nat.blt pc 70) (cond (Nat.beq pc 69) (some (.imul, 70)) none) (cond (Nat.beq pc 70) (some (.iload 4, 72)) none)) (cond (Nat.blt pc 73) (cond (Nat.beq pc 72) (some (.iadd, 73)) none) (cond (Nat.beq pc 73) (some (.iaload, 74)) none)))) (cond (Nat.blt pc 81) (cond (Nat.blt pc 77) (cond (Nat.blt pc 76) (cond (Nat.beq pc 74) (some (.bipush 100, 76)) none) (cond (Nat.beq pc 76) (some (.iload_n 1, 77)) none)) (cond (Nat.blt pc 78) (cond (Nat.beq pc 77) (some (.iadd, 78)) none) (cond (Nat.beq pc 78) (some (.if_icmp .ne 24, 102)) none))) (cond (Nat.blt pc 85) (cond (Nat.blt pc 82) (cond (Nat.beq pc 81) (some (.aload_n 0, 82)) none) (cond (Nat.beq pc 82) (some (.getfield 63, 85)) none)) (cond (Nat.blt pc 86) (cond (Nat.beq pc 85) (some (.iload_n 2, 86)) none) (cond (Nat.blt pc 87) (cond (Nat.beq pc 86) (some (.aload_n 0, 87)) none) (cond (Nat.beq pc 87) (some (.getfield 63, 90)) none)))))) (cond (Nat.blt pc 100) (cond (Nat.blt pc 94) (cond (Nat.blt pc 92) (cond (Nat.blt pc 91) (cond (Nat.beq pc 90) (some (.iload_n 2, 91)) none) (cond (Nat.beq pc 91) (some (.iaload, 92)) none)) (cond (Nat.blt pc 93) (cond (Nat.beq pc 92) (some (.iconst 1, 93)) none) (cond (Nat.beq pc 93) (some (.iconst 2, 94)) none))) (cond (Nat.blt pc 96) (cond (Nat.blt pc 95) (cond (Nat.beq pc 94) (some (.iload_n 3, 95)) none) (cond (Nat.beq pc 95) (some (.imul, 96)) none)) (cond (Nat.blt pc 98) (cond (Nat.beq pc 96) (some (.iload 4, 98)) none) (cond (Nat.blt pc 99) (cond (Nat.beq pc 98) (some (.iadd, 99)) none) (cond (Nat.beq pc 99) (some (.ishl, 100)) none))))) (cond (Nat.blt pc 108) (cond (Nat.blt pc 102) (cond (Nat.blt pc 101) (cond (Nat.beq pc 100) (some (.ior, 101)) none) (cond (Nat.beq pc 101) (some (.iastore, 102)) none)) (cond (Nat.blt pc 105) (cond (Nat.beq pc 102) (some (.iinc 4 1, 105)) none) (cond (Nat.beq pc 105) (some (.goto (-53), 52)) none))) (cond (Nat.blt pc 114) (cond (Nat.blt pc 111) (cond (Nat.beq pc 108) (some (.iinc 3 1, 111)) none) (cond (Nat.beq pc 111) (some (.goto (-88), 23)) none)) (cond (Nat.blt pc 117) (cond (Nat.beq pc 114) (some (.iinc 2 1, 117)) none) (cond (Nat.blt pc 120) (cond (Nat.beq pc 117) (some (.goto (-115), 2)) none) (cond (Nat.beq pc 120) (some (.return_, 121)) none)))))))) none
-- CaseDeskModel.set(II)I
def xc_107 : Nat → Option (Instr × Nat) := fun pc => cond (Nat.blt pc 67) (cond (Nat.blt pc 34) (cond (Nat.blt pc 18) (cond (Nat.blt pc 7) (cond (Nat.blt pc 2) (cond (Nat.blt pc 1) (cond (Nat.beq pc 0) (some (.aload_n 0, 1)) none) (cond (Nat.beq pc 1) (some (.iconst 0, 2)) none)) (cond (Nat.blt pc 5) (cond (Nat.beq pc 2) (some (.putfield 108, 5)) none) (cond (Nat.blt pc 6) (cond (Nat.beq pc 5) (some (.iload_n 1, 6)) none) (cond (Nat.beq pc 6) (some (.iconst 3, 7)) none)))) (cond (Nat.blt pc 13) (cond (Nat.blt pc 10) (cond (Nat.beq pc 7) (some (.invokestatic 119, 10)) none) (cond (Nat.beq pc 10) (some (.ifCond .ne 9, 19)) none)) (cond (Nat.blt pc 14) (cond (Nat.beq pc 13) (some (.aload_n 0, 14)) none) (cond (Nat.blt pc 15) (cond (Nat.beq pc 14) (some (.iconst 1, 15)) none) (cond (Nat.beq pc 15) (some (.invokevirtual 115, 18)) none))))) (cond (Nat.blt pc 27) (cond (Nat.blt pc 20) (cond (Nat.blt pc 19) (cond (Nat.beq pc 18) (some (.ireturn, 19)) none) (cond (Nat.beq pc 19) (some (.aload_n 0, 20)) none)) (cond (Nat.blt pc 23) (cond (Nat.beq pc 20) (some (.getfield 111, 23)) none) (cond (Nat.blt pc 26) (cond (Nat.beq pc 23) (some (.ifCond .ne 12, 35)) none) (cond (Nat.beq pc 26) (some (.aload_n 0, 27)) none)))) (cond (Nat.blt pc 31) (cond (Nat.blt pc 30) (cond (Nat.beq pc 27) (some (.getfield 66, 30)) none) (cond (Nat.beq pc 30) (some (.iload_n 1, 31)) none)) (cond (Nat.blt pc 32) (cond (Nat.beq pc 31) (some (.iload_n 2, 32)) none) (cond (Nat.blt pc 33) (cond (Nat.beq pc 32) (some (.iastore, 33)) none) (cond (Nat.beq pc 33) (some (.iconst 0, 34)) none)))))) (cond (Nat.blt pc 50) (cond (Nat.blt pc 43) (cond (Nat.blt pc 36) (cond (Nat.blt pc 35) (cond (Nat.beq pc 34) (some (.ireturn, 35)) none) (cond (Nat.beq pc 35) (some (.aload_n 0, 36)) none)) (cond (Nat.blt pc 39) (cond (Nat.beq pc 36) (some (.invokevirtual 227, 39)) none) (cond (Nat.blt pc 40) (cond (Nat.beq pc 39) (some (.aload_n 0, 40)) none) (cond (Nat.beq pc 40) (some (.getfield 66, 43)) none)))) (cond (Nat.blt pc 45) (cond (Nat.blt pc 44) (cond (Nat.beq pc 43) (some (.iload_n 1, 44)) none) (cond (Nat.beq pc 44) (some (.iaload, 45)) none)) (cond (Nat.blt pc 46) (cond (Nat.beq pc 45) (some (.iload_n 2, 46)) none) (cond (Nat.blt pc 49) (cond (Nat.beq pc 46) (some (.if_icmp .eq 8, 54)) none) (cond (Nat.beq pc 49) (some (.aload_n 0, 50)) none))))) (cond (Nat.blt pc 59) (cond (Nat.blt pc 54) (cond (Nat.blt pc 51) (cond (Nat.beq pc 50) (some (.iload_n 1, 51)) none) (cond (Nat.beq pc 51) (some (.invokevirtual 240, 54)) none)) (cond (Nat.blt pc 55) (cond (Nat.beq pc 54) (some (.aload_n 0, 55)) none) (cond (Nat.blt pc 58) (cond (Nat.beq pc 55) (some (.getfield 66, 58)) none) (cond (Nat.beq pc 58) (some (.iload_n 1, 59)) none)))) (cond (Nat.blt pc 62) (cond (Nat.blt pc 60) (cond (Nat.beq pc 59) (some (.iload_n 2, 60)) none) (cond (Nat.blt pc 61) (cond (Nat.beq pc 60) (some (.iastore, 61)) none) (cond (Nat.beq pc 61) (some (.aload_n 0, 62)) none))) (cond (Nat.blt pc 63) (cond (Nat.beq pc 62) (some (.iconst 2, 63)) none) (cond (Nat.blt pc 66) (cond (Nat.beq pc 63) (some (.invokevirtual 230, 66)) none) (cond (Nat.beq pc 66) (some (.ireturn, 67)) none))))))) none
-- CaseDeskModel.value(I)I
def xc_108 : Nat → Option (Instr × Nat) := fun pc => cond (Nat.blt pc 24) (cond (Nat.blt pc 13) (cond (Nat.blt pc 5) (cond (Nat.blt pc 1) (cond (Nat.beq pc 0) (some (.aload_n 0, 1)) none) (cond (Nat.blt pc 2) (cond (Nat.beq pc 1) (some (.iconst 0, 2)) none) (cond (Nat.beq pc 2) (some (.putfield 108, 5)) none))) (cond (Nat.blt pc 7) (cond (Nat.blt pc 6) (cond (Nat.beq pc 5) (some (.iload_n 1, 6)) none) (cond (Nat.beq pc 6) (some (.iconst 3, 7)) none)) (cond (Nat.blt pc 10) (cond (Nat.beq pc 7) (some (.invokestatic 119, 10)) none) (cond (Nat.beq pc 10) (some (.ifCond .eq 12, 22)) none)))) (cond (Nat.blt pc 18) (cond (Nat.blt pc 14) (cond (Nat.beq pc 13) (some (.aload_n 0, 14)) none) (cond (Nat.blt pc 17) (cond (Nat.beq pc 14) (some (.getfield 66, 17)) none) (cond (Nat.beq pc 17) (some (.iload_n 1, 18)) none))) (cond (Nat.blt pc 22) (cond (Nat.blt pc 19) (cond (Nat.beq pc 18) (some (.iaload, 19)) none) (cond (Nat.beq pc 19) (some (.goto 4, 23)) none)) (cond (Nat.blt pc 23) (cond (Nat.beq pc 22) (some (.iconst 0, 23)) none) (cond (Nat.beq pc 23) (some (.ireturn, 24)) none))))) none
-- CaseDeskModel.instances()I
def xc_109 : Nat → Option (Instr × Nat) := fun pc => cond (Nat.blt pc 10) (cond (Nat.blt pc 5) (cond (Nat.blt pc 1) (cond (Nat.beq pc 0) (some (.aload_n 0, 1)) none) (cond (Nat.blt pc 2) (cond (Nat.beq pc 1) (some (.iconst 0, 2)) none) (cond (Nat.beq pc 2) (some (.putfield 108, 5)) none))) (cond (Nat.blt pc 6) (cond (Nat.beq pc 5) (some (.aload_n 0, 6)) none) (cond (Nat.blt pc 9) (cond (Nat.beq pc 6) (some (.getfield 142, 9)) none) (cond (Nat.beq pc 9) (some (.ireturn, 10)) none)))) none
-- CaseDeskModel.instance(II)I
def xc_110 : Nat → Option (Instr × Nat) := fun pc => cond (Nat.blt pc 82) (cond (Nat.blt pc 58) (cond (Nat.blt pc 14) (cond (Nat.blt pc 6) (cond (Nat.blt pc 2) (cond (Nat.blt pc 1) (cond (Nat.beq pc 0) (some (.aload_n 0, 1)) none) (cond (Nat.beq pc 1) (some (.iconst 0, 2)) none)) (cond (Nat.blt pc 5) (cond (Nat.beq pc 2) (some (.putfield 108, 5)) none) (cond (Nat.beq pc 5) (some (.iload_n 1, 6)) none))) (cond (Nat.blt pc 10) (cond (Nat.blt pc 9) (cond (Nat.beq pc 6) (some (.ifCond .lt 11, 17)) none) (cond (Nat.beq pc 9) (some (.iload_n 1, 10)) none)) (cond (Nat.blt pc 11) (cond (Nat.beq pc 10) (some (.aload_n 0, 11)) none) (cond (Nat.beq pc 11) (some (.getfield 142, 14)) none)))) (cond (Nat.blt pc 20) (cond (Nat.blt pc 18) (cond (Nat.blt pc 17) (cond (Nat.beq pc 14) (some (.if_icmp .lt 5, 19)) none) (cond (Nat.beq pc 17) (some (.iconst (-1), 18)) none)) (cond (Nat.blt pc 19) (cond (Nat.beq pc 18) (some (.ireturn, 19)) none) (cond (Nat.beq pc 19) (some (.iload_n 2, 20)) none))) (cond (Nat.blt pc 53) (cond (Nat.blt pc 52) (cond (Nat.beq pc 20) (some (.tableswitch 60 0 3 #[32, 39, 46, 53], 52)) none) (cond (Nat.beq pc 52) (some (.aload_n 0, 53)) none)) (cond (Nat.blt pc 56) (cond (Nat.beq pc 53) (some (.getfield 51, 56)) none) (cond (Nat.blt pc 57) (cond (Nat.beq pc 56) (some (.iload_n 1, 57)) none) (cond (Nat.beq pc 57) (some (.iaload, 58)) none)))))) (cond (Nat.blt pc 71) (cond (Nat.blt pc 64) (cond (Nat.blt pc 60) (cond (Nat.blt pc 59) (cond (Nat.beq pc 58) (some (.ireturn, 59)) none) (cond (Nat.beq pc 59) (some (.aload_n 0, 60)) none)) (cond (Nat.blt pc 63) (cond (Nat.beq pc 60) (some (.getfield 54, 63)) none) (cond (Nat.beq pc 63) (some (.iload_n 1, 64)) none))) (cond (Nat.blt pc 66) (cond (Nat.blt pc 65) (cond (Nat.beq pc 64) (some (.iaload, 65)) none) (cond (Nat.beq pc 65) (some (.ireturn, 66)) none)) (cond (Nat.blt pc 67) (cond (Nat.beq pc 66) (some (.aload_n 0, 67)) none) (cond (Nat.blt pc 70) (cond (Nat.beq pc 67) (some (.getfield 57, 70)) none) (cond (Nat.beq pc 70) (some (.iload_n 1, 71)) none))))) (cond (Nat.blt pc 77) (cond (Nat.blt pc 73) (cond (Nat.blt pc 72) (cond (Nat.beq pc 71) (some (.iaload, 72)) none) (cond (Nat.beq pc 72) (some (.ireturn, 73)) none)) (cond (Nat.blt pc 74) (cond (Nat.beq pc 73) (some (.aload_n 0, 74)) none) (cond (Nat.beq pc 74) (some (.getfield 60, 77)) none))) (cond (Nat.blt pc 79) (cond (Nat.blt pc 78) (cond (Nat.beq pc 77) (some (.iload_n 1, 78)) none) (cond (Nat.beq pc 78) (some (.iaload, 79)) none)) (cond (Nat.blt pc 80) (cond (Nat.beq pc 79) (some (.ireturn, 80)) none) (cond (Nat.blt pc 81) (cond (Nat.beq pc 80) (some (.iconst (-1), 81)) none) (cond (Nat.beq pc 81) (some (.ireturn, 82)) none))))))) none
-- CaseDeskModel.marked(III)Z
def xc_111 : Nat → Option (Instr × Nat) := fun pc => cond (Nat.blt pc 88) (cond (Nat.blt pc 49) (cond (Nat.blt pc 25) (cond (Nat.blt pc 10) (cond (Nat.blt pc 5) (cond (Nat.blt pc 1) (cond (Nat.beq pc 0) (some (.aload_n 0, 1)) none) (cond (Nat.blt pc 2) (cond (Nat.beq pc 1) (some (.iconst 0, 2)) none) (cond (Nat.beq pc 2) (some (.putfield 108, 5)) none))) (cond (Nat.blt pc 6) (cond (Nat.beq pc 5) (some (.iload_n 1, 6)) none) (cond (Nat.blt pc 9) (cond (Nat.beq pc 6) (some (.ifCond .lt 33, 39)) none) (cond (Nat.beq pc 9) (some (.iload_n 1, 10)) none)))) (cond (Nat.blt pc 17) (cond (Nat.blt pc 11) (cond (Nat.beq pc 10) (some (.aload_n 0, 11)) none) (cond (Nat.blt pc 14) (cond (Nat.beq pc 11) (some (.getfield 142, 14)) none) (cond (Nat.beq pc 14) (some (.if_icmp .ge 25, 39)) none))) (cond (Nat.blt pc 19) (cond (Nat.blt pc 18) (cond (Nat.beq pc 17) (some (.aload_n 0, 18)) none) (cond (Nat.beq pc 18) (some (.iload_n 2, 19)) none)) (cond (Nat.blt pc 22) (cond (Nat.beq pc 19) (some (.invokevirtual 126, 22)) none) (cond (Nat.beq pc 22) (some (.ifCond .eq 17, 39)) none))))) (cond (Nat.blt pc 36) (cond (Nat.blt pc 30) (cond (Nat.blt pc 26) (cond (Nat.beq pc 25) (some (.iload_n 3, 26)) none) (cond (Nat.blt pc 29) (cond (Nat.beq pc 26) (some (.ifCond .lt 13, 39)) none) (cond (Nat.beq pc 29) (some (.iload_n 3, 30)) none))) (cond (Nat.blt pc 34) (cond (Nat.blt pc 31) (cond (Nat.beq pc 30) (some (.aload_n 0, 31)) none) (cond (Nat.beq pc 31) (some (.getfield 30, 34)) none)) (cond (Nat.blt pc 35) (cond (Nat.beq pc 34) (some (.iload_n 2, 35)) none) (cond (Nat.beq pc 35) (some (.iaload, 36)) none)))) (cond (Nat.blt pc 41) (cond (Nat.blt pc 39) (cond (Nat.beq pc 36) (some (.if_icmp .lt 5, 41)) none) (cond (Nat.blt pc 40) (cond (Nat.beq pc 39) (some (.iconst 0, 40)) none) (cond (Nat.beq pc 40) (some (.ireturn, 41)) none))) (cond (Nat.blt pc 43) (cond (Nat.blt pc 42) (cond (Nat.beq pc 41) (some (.aload_n 0, 42)) none) (cond (Nat.beq pc 42) (some (.iload_n 1, 43)) none)) (cond (Nat.blt pc 46) (cond (Nat.beq pc 43) (some (.invokevirtual 145, 46)) none) (cond (Nat.beq pc 46) (some (.ifCond .ne 40, 86)) none)))))) (cond (Nat.blt pc 70) (cond (Nat.blt pc 59) (cond (Nat.blt pc 54) (cond (Nat.blt pc 50) (cond (Nat.beq pc 49) (some (.aload_n 0, 50)) none) (cond (Nat.blt pc 53) (cond (Nat.beq pc 50) (some (.getfield 23, 53)) none) (cond (Nat.beq pc 53) (some (.iload_n 2, 54)) none))) (cond (Nat.blt pc 55) (cond (Nat.beq pc 54) (some (.iaload, 55)) none) (cond (Nat.blt pc 56) (cond (Nat.beq pc 55) (some (.aload_n 0, 56)) none) (cond (Nat.beq pc 56) (some (.getfield 51, 59)) none)))) (cond (Nat.blt pc 64) (cond (Nat.blt pc 60) (cond (Nat.beq pc 59) (some (.iload_n 1, 60)) none) (cond (Nat.blt pc 61) (cond (Nat.beq pc 60) (some (.iaload, 61)) none) (cond (Nat.beq pc 61) (some (.if_icmp .ne 25, 86)) none))) (cond (Nat.blt pc 68) (cond (Nat.blt pc 65) (cond (Nat.beq pc 64) (some (.aload_n 0, 65)) none) (cond (Nat.beq pc 65) (some (.getfield 63, 68)) none)) (cond (Nat.blt pc 69) (cond (Nat.beq pc 68) (some (.iload_n 1, 69)) none) (cond (Nat.beq pc 69) (some (.iaload, 70)) none))))) (cond (Nat.blt pc 77) (cond (Nat.blt pc 73) (cond (Nat.blt pc 71) (cond (Nat.beq pc 70) (some (.iconst 2, 71)) none) (cond (Nat.blt pc 72) (cond (Nat.beq pc 71) (some (.iload_n 2, 72)) none) (cond (Nat.beq pc 72) (some (.imul, 73)) none))) (cond (Nat.blt pc 75) (cond (Nat.blt pc 74) (cond (Nat.beq pc 73) (some (.iload_n 3, 74)) none) (cond (Nat.beq pc 74) (some (.iadd, 75)) none)) (cond (Nat.blt pc 76) (cond (Nat.beq pc 75) (some (.ishr, 76)) none) (cond (Nat.beq pc 76) (some (.iconst 1, 77)) none)))) (cond (Nat.blt pc 82) (cond (Nat.blt pc 78) (cond (Nat.beq pc 77) (some (.iand, 78)) none) (cond (Nat.blt pc 79) (cond (Nat.beq pc 78) (some (.iconst 1, 79)) none) (cond (Nat.beq pc 79) (some (.if_icmp .ne 7, 86)) none))) (cond (Nat.blt pc 86) (cond (Nat.blt pc 83) (cond (Nat.beq pc 82) (some (.iconst 1, 83)) none) (cond (Nat.beq pc 83) (some (.goto 4, 87)) none)) (cond (Nat.blt pc 87) (cond (Nat.beq pc 86) (some (.iconst 0, 87)) none) (cond (Nat.beq pc 87) (some (.ireturn, 88)) none))))))) none
-- CaseDeskModel.moves()I
def xc_112 : Nat → Option (Instr × Nat) := fun pc => cond (Nat.blt pc 10) (cond (Nat.blt pc 5) (cond (Nat.blt pc 1) (cond (Nat.beq pc 0) (some (.aload_n 0, 1)) none) (cond (Nat.blt pc 2) (cond (Nat.beq pc 1) (some (.iconst 0, 2)) none) (cond (Nat.beq pc 2) (some (.putfield 108, 5)) none))) (cond (Nat.blt pc 6) (cond (Nat.beq pc 5) (some (.aload_n 0, 6)) none) (cond (Nat.blt pc 9) (cond (Nat.beq pc 6) (some (.getfield 139, 9)) none) (cond (Nat.beq pc 9) (some (.ireturn, 10)) none)))) none
-- CaseDeskModel.history(II)I
def xc_113 : Nat → Option (Instr × Nat) := fun pc => cond (Nat.blt pc 66) (cond (Nat.blt pc 33) (cond (Nat.blt pc 17) (cond (Nat.blt pc 9) (cond (Nat.blt pc 2) (cond (Nat.blt pc 1) (cond (Nat.beq pc 0) (some (.aload_n 0, 1)) none) (cond (Nat.beq pc 1) (some (.iconst 0, 2)) none)) (cond (Nat.blt pc 5) (cond (Nat.beq pc 2) (some (.putfield 108, 5)) none) (cond (Nat.blt pc 6) (cond (Nat.beq pc 5) (some (.iload_n 1, 6)) none) (cond (Nat.beq pc 6) (some (.ifCond .lt 17, 23)) none)))) (cond (Nat.blt pc 12) (cond (Nat.blt pc 10) (cond (Nat.beq pc 9) (some (.iload_n 1, 10)) none) (cond (Nat.beq pc 10) (some (.bipush 47, 12)) none)) (cond (Nat.blt pc 15) (cond (Nat.beq pc 12) (some (.if_icmp .gt 11, 23)) none) (cond (Nat.blt pc 16) (cond (Nat.beq pc 15) (some (.iload_n 1, 16)) none) (cond (Nat.beq pc 16) (some (.aload_n 0, 17)) none))))) (cond (Nat.blt pc 26) (cond (Nat.blt pc 23) (cond (Nat.blt pc 20) (cond (Nat.beq pc 17) (some (.getfield 139, 20)) none) (cond (Nat.beq pc 20) (some (.if_icmp .lt 5, 25)) none)) (cond (Nat.blt pc 24) (cond (Nat.beq pc 23) (some (.iconst (-1), 24)) none) (cond (Nat.blt pc 25) (cond (Nat.beq pc 24) (some (.ireturn, 25)) none) (cond (Nat.beq pc 25) (some (.aload_n 0, 26)) none)))) (cond (Nat.blt pc 30) (cond (Nat.blt pc 29) (cond (Nat.beq pc 26) (some (.getfield 139, 29)) none) (cond (Nat.beq pc 29) (some (.iconst 1, 30)) none)) (cond (Nat.blt pc 31) (cond (Nat.beq pc 30) (some (.isub, 31)) none) (cond (Nat.blt pc 32) (cond (Nat.beq pc 31) (some (.iload_n 1, 32)) none) (cond (Nat.beq pc 32) (some (.isub, 33)) none)))))) (cond (Nat.blt pc 50) (cond (Nat.blt pc 41) (cond (Nat.blt pc 36) (cond (Nat.blt pc 35) (cond (Nat.beq pc 33) (some (.bipush 48, 35)) none) (cond (Nat.beq pc 35) (some (.irem, 36)) none)) (cond (Nat.blt pc 37) (cond (Nat.beq pc 36) (some (.istore_n 3, 37)) none) (cond (Nat.blt pc 38) (cond (Nat.beq pc 37) (some (.iload_n 2, 38)) none) (cond (Nat.beq pc 38) (some (.ifCond .ne 12, 50)) none)))) (cond (Nat.blt pc 45) (cond (Nat.blt pc 42) (cond (Nat.beq pc 41) (some (.aload_n 0, 42)) none) (cond (Nat.beq pc 42) (some (.getfield 69, 45)) none)) (cond (Nat.blt pc 46) (cond (Nat.beq pc 45) (some (.iload_n 3, 46)) none) (cond (Nat.blt pc 47) (cond (Nat.beq pc 46) (some (.iaload, 47)) none) (cond (Nat.beq pc 47) (some (.goto 18, 65)) none))))) (cond (Nat.blt pc 59) (cond (Nat.blt pc 52) (cond (Nat.blt pc 51) (cond (Nat.beq pc 50) (some (.iload_n 2, 51)) none) (cond (Nat.beq pc 51) (some (.iconst 1, 52)) none)) (cond (Nat.blt pc 55) (cond (Nat.beq pc 52) (some (.if_icmp .ne 12, 64)) none) (cond (Nat.blt pc 56) (cond (Nat.beq pc 55) (some (.aload_n 0, 56)) none) (cond (Nat.beq pc 56) (some (.getfield 72, 59)) none)))) (cond (Nat.blt pc 61) (cond (Nat.blt pc 60) (cond (Nat.beq pc 59) (some (.iload_n 3, 60)) none) (cond (Nat.beq pc 60) (some (.iaload, 61)) none)) (cond (Nat.blt pc 64) (cond (Nat.beq pc 61) (some (.goto 4, 65)) none) (cond (Nat.blt pc 65) (cond (Nat.beq pc 64) (some (.iconst (-1), 65)) none) (cond (Nat.beq pc 65) (some (.ireturn, 66)) none))))))) none
-- CaseDeskLaw.item(LCaseDesk;III[J)I
def xc_114 : Nat → Option (Instr × Nat) := fun pc => cond (Nat.blt pc 25) (cond (Nat.blt pc 12) (cond (Nat.blt pc 5) (cond (Nat.blt pc 3) (cond (Nat.blt pc 2) (cond (Nat.beq pc 0) (some (.aload 4, 2)) none) (cond (Nat.beq pc 2) (some (.iconst 0, 3)) none)) (cond (Nat.blt pc 4) (cond (Nat.beq pc 3) (some (.aload_n 0, 4)) none) (cond (Nat.beq pc 4) (some (.iload_n 1, 5)) none))) (cond (Nat.blt pc 7) (cond (Nat.blt pc 6) (cond (Nat.beq pc 5) (some (.iload_n 2, 6)) none) (cond (Nat.beq pc 6) (some (.iload_n 3, 7)) none)) (cond (Nat.blt pc 10) (cond (Nat.beq pc 7) (some (.invokevirtual 7, 10)) none) (cond (Nat.blt pc 11) (cond (Nat.beq pc 10) (some (.i2l, 11)) none) (cond (Nat.beq pc 11) (some (.lastore, 12)) none))))) (cond (Nat.blt pc 19) (cond (Nat.blt pc 17) (cond (Nat.blt pc 15) (cond (Nat.beq pc 12) (some (.goto 11, 23)) none) (cond (Nat.beq pc 15) (some (.astore 5, 17)) none)) (cond (Nat.blt pc 18) (cond (Nat.beq pc 17) (some (.iconst 1, 18)) none) (cond (Nat.beq pc 18) (some (.ireturn, 19)) none))) (cond (Nat.blt pc 22) (cond (Nat.blt pc 21) (cond (Nat.beq pc 19) (some (.astore 5, 21)) none) (cond (Nat.beq pc 21) (some (.iconst 2, 22)) none)) (cond (Nat.blt pc 23) (cond (Nat.beq pc 22) (some (.ireturn, 23)) none) (cond (Nat.blt pc 24) (cond (Nat.beq pc 23) (some (.iconst 0, 24)) none) (cond (Nat.beq pc 24) (some (.ireturn, 25)) none)))))) none
-- CaseDeskLaw.sentry(LCaseDesk;IZ[J)I
def xc_115 : Nat → Option (Instr × Nat) := fun pc => cond (Nat.blt pc 23) (cond (Nat.blt pc 10) (cond (Nat.blt pc 4) (cond (Nat.blt pc 2) (cond (Nat.blt pc 1) (cond (Nat.beq pc 0) (some (.aload_n 3, 1)) none) (cond (Nat.beq pc 1) (some (.iconst 0, 2)) none)) (cond (Nat.blt pc 3) (cond (Nat.beq pc 2) (some (.aload_n 0, 3)) none) (cond (Nat.beq pc 3) (some (.iload_n 1, 4)) none))) (cond (Nat.blt pc 8) (cond (Nat.blt pc 5) (cond (Nat.beq pc 4) (some (.iload_n 2, 5)) none) (cond (Nat.beq pc 5) (some (.invokevirtual 17, 8)) none)) (cond (Nat.blt pc 9) (cond (Nat.beq pc 8) (some (.i2l, 9)) none) (cond (Nat.beq pc 9) (some (.lastore, 10)) none)))) (cond (Nat.blt pc 17) (cond (Nat.blt pc 15) (cond (Nat.blt pc 13) (cond (Nat.beq pc 10) (some (.goto 11, 21)) none) (cond (Nat.beq pc 13) (some (.astore 4, 15)) none)) (cond (Nat.blt pc 16) (cond (Nat.beq pc 15) (some (.iconst 1, 16)) none) (cond (Nat.beq pc 16) (some (.ireturn, 17)) none))) (cond (Nat.blt pc 20) (cond (Nat.blt pc 19) (cond (Nat.beq pc 17) (some (.astore 4, 19)) none) (cond (Nat.beq pc 19) (some (.iconst 2, 20)) none)) (cond (Nat.blt pc 21) (cond (Nat.beq pc 20) (some (.ireturn, 21)) none) (cond (Nat.blt pc 22) (cond (Nat.beq pc 21) (some (.iconst 0, 22)) none) (cond (Nat.beq pc 22) (some (.ireturn, 23)) none)))))) none
-- CaseDeskLaw.on(LCaseDesk;III[J)I
def xc_116 : Nat → Option (Instr × Nat) := fun pc => cond (Nat.blt pc 25) (cond (Nat.blt pc 12) (cond (Nat.blt pc 5) (cond (Nat.blt pc 3) (cond (Nat.blt pc 2) (cond (Nat.beq pc 0) (some (.aload 4, 2)) none) (cond (Nat.beq pc 2) (some (.iconst 0, 3)) none)) (cond (Nat.blt pc 4) (cond (Nat.beq pc 3) (some (.aload_n 0, 4)) none) (cond (Nat.beq pc 4) (some (.iload_n 1, 5)) none))) (cond (Nat.blt pc 7) (cond (Nat.blt pc 6) (cond (Nat.beq pc 5) (some (.iload_n 2, 6)) none) (cond (Nat.beq pc 6) (some (.iload_n 3, 7)) none)) (cond (Nat.blt pc 10) (cond (Nat.beq pc 7) (some (.invokevirtual 21, 10)) none) (cond (Nat.blt pc 11) (cond (Nat.beq pc 10) (some (.i2l, 11)) none) (cond (Nat.beq pc 11) (some (.lastore, 12)) none))))) (cond (Nat.blt pc 19) (cond (Nat.blt pc 17) (cond (Nat.blt pc 15) (cond (Nat.beq pc 12) (some (.goto 11, 23)) none) (cond (Nat.beq pc 15) (some (.astore 5, 17)) none)) (cond (Nat.blt pc 18) (cond (Nat.beq pc 17) (some (.iconst 1, 18)) none) (cond (Nat.beq pc 18) (some (.ireturn, 19)) none))) (cond (Nat.blt pc 22) (cond (Nat.blt pc 21) (cond (Nat.beq pc 19) (some (.astore 5, 21)) none) (cond (Nat.beq pc 21) (some (.iconst 2, 22)) none)) (cond (Nat.blt pc 23) (cond (Nat.beq pc 22) (some (.ireturn, 23)) none) (cond (Nat.blt pc 24) (cond (Nat.beq pc 23) (some (.iconst 0, 24)) none) (cond (Nat.beq pc 24) (some (.ireturn, 25)) none)))))) none
-- CaseDeskLaw.when(LCaseDesk;IIII)I
def xc_117 : Nat → Option (Instr × Nat) := fun pc => cond (Nat.blt pc 22) (cond (Nat.blt pc 12) (cond (Nat.blt pc 3) (cond (Nat.blt pc 1) (cond (Nat.beq pc 0) (some (.aload_n 0, 1)) none) (cond (Nat.blt pc 2) (cond (Nat.beq pc 1) (some (.iload_n 1, 2)) none) (cond (Nat.beq pc 2) (some (.iload_n 2, 3)) none))) (cond (Nat.blt pc 6) (cond (Nat.blt pc 4) (cond (Nat.beq pc 3) (some (.iload_n 3, 4)) none) (cond (Nat.beq pc 4) (some (.iload 4, 6)) none)) (cond (Nat.blt pc 9) (cond (Nat.beq pc 6) (some (.invokevirtual 24, 9)) none) (cond (Nat.beq pc 9) (some (.goto 11, 20)) none)))) (cond (Nat.blt pc 18) (cond (Nat.blt pc 15) (cond (Nat.blt pc 14) (cond (Nat.beq pc 12) (some (.astore 5, 14)) none) (cond (Nat.beq pc 14) (some (.iconst 1, 15)) none)) (cond (Nat.blt pc 16) (cond (Nat.beq pc 15) (some (.ireturn, 16)) none) (cond (Nat.beq pc 16) (some (.astore 5, 18)) none))) (cond (Nat.blt pc 20) (cond (Nat.blt pc 19) (cond (Nat.beq pc 18) (some (.iconst 2, 19)) none) (cond (Nat.beq pc 19) (some (.ireturn, 20)) none)) (cond (Nat.blt pc 21) (cond (Nat.beq pc 20) (some (.iconst 0, 21)) none) (cond (Nat.beq pc 21) (some (.ireturn, 22)) none))))) none
-- CaseDeskLaw.begin(LCaseDesk;I[J)I
def xc_118 : Nat → Option (Instr × Nat) := fun pc => cond (Nat.blt pc 23) (cond (Nat.blt pc 13) (cond (Nat.blt pc 4) (cond (Nat.blt pc 2) (cond (Nat.blt pc 1) (cond (Nat.beq pc 0) (some (.aload_n 2, 1)) none) (cond (Nat.beq pc 1) (some (.iconst 0, 2)) none)) (cond (Nat.blt pc 3) (cond (Nat.beq pc 2) (some (.aload_n 0, 3)) none) (cond (Nat.beq pc 3) (some (.iload_n 1, 4)) none))) (cond (Nat.blt pc 8) (cond (Nat.blt pc 7) (cond (Nat.beq pc 4) (some (.invokevirtual 28, 7)) none) (cond (Nat.beq pc 7) (some (.i2l, 8)) none)) (cond (Nat.blt pc 9) (cond (Nat.beq pc 8) (some (.lastore, 9)) none) (cond (Nat.blt pc 12) (cond (Nat.beq pc 9) (some (.goto 12, 21)) none) (cond (Nat.beq pc 12) (some (.astore_n 3, 13)) none))))) (cond (Nat.blt pc 18) (cond (Nat.blt pc 15) (cond (Nat.blt pc 14) (cond (Nat.beq pc 13) (some (.iconst 1, 14)) none) (cond (Nat.beq pc 14) (some (.ireturn, 15)) none)) (cond (Nat.blt pc 16) (cond (Nat.beq pc 15) (some (.astore_n 3, 16)) none) (cond (Nat.blt pc 17) (cond (Nat.beq pc 16) (some (.iconst 2, 17)) none) (cond (Nat.beq pc 17) (some (.ireturn, 18)) none)))) (cond (Nat.blt pc 20) (cond (Nat.blt pc 19) (cond (Nat.beq pc 18) (some (.astore_n 3, 19)) none) (cond (Nat.beq pc 19) (some (.iconst 3, 20)) none)) (cond (Nat.blt pc 21) (cond (Nat.beq pc 20) (some (.ireturn, 21)) none) (cond (Nat.blt pc 22) (cond (Nat.beq pc 21) (some (.iconst 0, 22)) none) (cond (Nat.beq pc 22) (some (.ireturn, 23)) none)))))) none
-- CaseDeskLaw.move(LCaseDesk;II[J)I
def xc_119 : Nat → Option (Instr × Nat) := fun pc => cond (Nat.blt pc 31) (cond (Nat.blt pc 16) (cond (Nat.blt pc 5) (cond (Nat.blt pc 2) (cond (Nat.blt pc 1) (cond (Nat.beq pc 0) (some (.aload_n 3, 1)) none) (cond (Nat.beq pc 1) (some (.iconst 0, 2)) none)) (cond (Nat.blt pc 3) (cond (Nat.beq pc 2) (some (.aload_n 0, 3)) none) (cond (Nat.blt pc 4) (cond (Nat.beq pc 3) (some (.iload_n 1, 4)) none) (cond (Nat.beq pc 4) (some (.iload_n 2, 5)) none)))) (cond (Nat.blt pc 10) (cond (Nat.blt pc 8) (cond (Nat.beq pc 5) (some (.invokevirtual 34, 8)) none) (cond (Nat.blt pc 9) (cond (Nat.beq pc 8) (some (.i2l, 9)) none) (cond (Nat.beq pc 9) (some (.lastore, 10)) none))) (cond (Nat.blt pc 13) (cond (Nat.beq pc 10) (some (.goto 19, 29)) none) (cond (Nat.blt pc 15) (cond (Nat.beq pc 13) (some (.astore 4, 15)) none) (cond (Nat.beq pc 15) (some (.iconst 1, 16)) none))))) (cond (Nat.blt pc 24) (cond (Nat.blt pc 20) (cond (Nat.blt pc 17) (cond (Nat.beq pc 16) (some (.ireturn, 17)) none) (cond (Nat.blt pc 19) (cond (Nat.beq pc 17) (some (.astore 4, 19)) none) (cond (Nat.beq pc 19) (some (.iconst 2, 20)) none))) (cond (Nat.blt pc 21) (cond (Nat.beq pc 20) (some (.ireturn, 21)) none) (cond (Nat.blt pc 23) (cond (Nat.beq pc 21) (some (.astore 4, 23)) none) (cond (Nat.beq pc 23) (some (.iconst 3, 24)) none)))) (cond (Nat.blt pc 28) (cond (Nat.blt pc 25) (cond (Nat.beq pc 24) (some (.ireturn, 25)) none) (cond (Nat.blt pc 27) (cond (Nat.beq pc 25) (some (.astore 4, 27)) none) (cond (Nat.beq pc 27) (some (.iconst 4, 28)) none))) (cond (Nat.blt pc 29) (cond (Nat.beq pc 28) (some (.ireturn, 29)) none) (cond (Nat.blt pc 30) (cond (Nat.beq pc 29) (some (.iconst 0, 30)) none) (cond (Nat.beq pc 30) (some (.ireturn, 31)) none)))))) none
-- CaseDeskLaw.set(LCaseDesk;II[J)I
def xc_120 : Nat → Option (Instr × Nat) := fun pc => cond (Nat.blt pc 23) (cond (Nat.blt pc 10) (cond (Nat.blt pc 4) (cond (Nat.blt pc 2) (cond (Nat.blt pc 1) (cond (Nat.beq pc 0) (some (.aload_n 3, 1)) none) (cond (Nat.beq pc 1) (some (.iconst 0, 2)) none)) (cond (Nat.blt pc 3) (cond (Nat.beq pc 2) (some (.aload_n 0, 3)) none) (cond (Nat.beq pc 3) (some (.iload_n 1, 4)) none))) (cond (Nat.blt pc 8) (cond (Nat.blt pc 5) (cond (Nat.beq pc 4) (some (.iload_n 2, 5)) none) (cond (Nat.beq pc 5) (some (.invokevirtual 40, 8)) none)) (cond (Nat.blt pc 9) (cond (Nat.beq pc 8) (some (.i2l, 9)) none) (cond (Nat.beq pc 9) (some (.lastore, 10)) none)))) (cond (Nat.blt pc 17) (cond (Nat.blt pc 15) (cond (Nat.blt pc 13) (cond (Nat.beq pc 10) (some (.goto 11, 21)) none) (cond (Nat.beq pc 13) (some (.astore 4, 15)) none)) (cond (Nat.blt pc 16) (cond (Nat.beq pc 15) (some (.iconst 1, 16)) none) (cond (Nat.beq pc 16) (some (.ireturn, 17)) none))) (cond (Nat.blt pc 20) (cond (Nat.blt pc 19) (cond (Nat.beq pc 17) (some (.astore 4, 19)) none) (cond (Nat.beq pc 19) (some (.iconst 2, 20)) none)) (cond (Nat.blt pc 21) (cond (Nat.beq pc 20) (some (.ireturn, 21)) none) (cond (Nat.blt pc 22) (cond (Nat.beq pc 21) (some (.iconst 0, 22)) none) (cond (Nat.beq pc 22) (some (.ireturn, 23)) none)))))) none
end
section
set_option maxRecDepth 100000 in
theorem xk_0_0 : xj_chkR code 7 xc_0 0 40 = true := by decide +kernel
set_option maxRecDepth 100000 in
theorem xk_0_1 : xj_chkR code 7 xc_0 40 40 = true := by decide +kernel
end
section
set_option maxRecDepth 100000 in
theorem xk_0_2 : xj_chkR code 7 xc_0 80 40 = true := by decide +kernel
set_option maxRecDepth 100000 in
theorem xk_0_3 : xj_chkR code 7 xc_0 120 40 = true := by decide +kernel
end
section
set_option maxRecDepth 100000 in
theorem xk_0_4 : xj_chkR code 7 xc_0 160 40 = true := by decide +kernel
set_option maxRecDepth 100000 in
theorem xk_0_5 : xj_chkR code 7 xc_0 200 40 = true := by decide +kernel
end
section
set_option maxRecDepth 100000 in
theorem xk_0_6 : xj_chkR code 7 xc_0 240 40 = true := by decide +kernel
set_option maxRecDepth 100000 in
theorem xk_0_7 : xj_chkR code 7 xc_0 280 40 = true := by decide +kernel
end
section
set_option maxRecDepth 100000 in
theorem xk_0_8 : xj_chkR code 7 xc_0 320 40 = true := by decide +kernel
set_option maxRecDepth 100000 in
theorem xk_0_9 : xj_chkR code 7 xc_0 360 40 = true := by decide +kernel
end
section
set_option maxRecDepth 100000 in
theorem xk_0_10 : xj_chkR code 7 xc_0 400 40 = true := by decide +kernel
set_option maxRecDepth 100000 in
theorem xk_0_11 : xj_chkR code 7 xc_0 440 40 = true := by decide +kernel
end
section
set_option maxRecDepth 100000 in
theorem xk_0_12 : xj_chkR code 7 xc_0 480 40 = true := by decide +kernel
set_option maxRecDepth 100000 in
theorem xk_0_13 : xj_chkR code 7 xc_0 520 40 = true := by decide +kernel
end
section
set_option maxRecDepth 100000 in
theorem xk_0_14 : xj_chkR code 7 xc_0 560 40 = true := by decide +kernel
set_option maxRecDepth 100000 in
theorem xk_0_15 : xj_chkR code 7 xc_0 600 40 = true := by decide +kernel
end
section
set_option maxRecDepth 100000 in
theorem xk_0_16 : xj_chkR code 7 xc_0 640 40 = true := by decide +kernel
set_option maxRecDepth 100000 in
theorem xk_0_17 : xj_chkR code 7 xc_0 680 40 = true := by decide +kernel
end
section
set_option maxRecDepth 100000 in
theorem xk_0_18 : xj_chkR code 7 xc_0 720 40 = true := by decide +kernel
set_option maxRecDepth 100000 in
theorem xk_0_19 : xj_chkR code 7 xc_0 760 40 = true := by decide +kernel
end
section
set_option maxRecDepth 100000 in
theorem xk_0_20 : xj_chkR code 7 xc_0 800 35 = true := by decide +kernel
set_option maxRecDepth 100000 in
theorem xk_1 : xj_chk prog_9_method_50_code 3 xc_1 20 = true := by decide +kernel
set_option maxRecDepth 100000 in
theorem xk_2 : xj_chk prog_2_method_1_code 1 xc_2 68 = true := by decide +kernel
set_option maxRecDepth 100000 in
theorem xk_3 : xj_chk prog_2_method_2_code 1 xc_3 13 = true := by decide +kernel
set_option maxRecDepth 100000 in
theorem xk_4 : xj_chk prog_2_method_3_code 2 xc_4 18 = true := by decide +kernel
set_option maxRecDepth 100000 in
theorem xk_5 : xj_chk prog_2_method_4_code 2 xc_5 26 = true := by decide +kernel
set_option maxRecDepth 100000 in
theorem xk_6 : xj_chk prog_2_method_5_code 2 xc_6 25 = true := by decide +kernel
set_option maxRecDepth 100000 in
theorem xk_7 : xj_chk prog_2_method_6_code 3 xc_7 37 = true := by decide +kernel
set_option maxRecDepth 100000 in
theorem xk_8 : xj_chk prog_2_method_7_code 4 xc_8 56 = true := by decide +kernel
set_option maxRecDepth 100000 in
theorem xk_9 : xj_chk prog_2_method_8_code 2 xc_9 144 = true := by decide +kernel
end
section
set_option maxRecDepth 100000 in
theorem xk_10 : xj_chk prog_3_method_1_code 1 xc_10 120 = true := by decide +kernel
set_option maxRecDepth 100000 in
theorem xk_11 : xj_chk prog_3_method_2_code 2 xc_11 8 = true := by decide +kernel
set_option maxRecDepth 100000 in
theorem xk_12 : xj_chk prog_3_method_3_code 2 xc_12 18 = true := by decide +kernel
set_option maxRecDepth 100000 in
theorem xk_13 : xj_chk prog_3_method_4_code 2 xc_13 23 = true := by decide +kernel
set_option maxRecDepth 100000 in
theorem xk_14 : xj_chk prog_3_method_5_code 3 xc_14 17 = true := by decide +kernel
set_option maxRecDepth 100000 in
theorem xk_15 : xj_chk prog_3_method_6_code 3 xc_15 39 = true := by decide +kernel
set_option maxRecDepth 100000 in
theorem xk_16 : xj_chk prog_3_method_7_code 4 xc_16 47 = true := by decide +kernel
set_option maxRecDepth 100000 in
theorem xk_17 : xj_chk prog_3_method_8_code 3 xc_17 53 = true := by decide +kernel
set_option maxRecDepth 100000 in
theorem xk_18 : xj_chk prog_3_method_9_code 5 xc_18 68 = true := by decide +kernel
set_option maxRecDepth 100000 in
theorem xk_19 : xj_chk prog_3_method_10_code 2 xc_19 18 = true := by decide +kernel
set_option maxRecDepth 100000 in
theorem xk_20 : xj_chk prog_3_method_11_code 2 xc_20 24 = true := by decide +kernel
set_option maxRecDepth 100000 in
theorem xk_21 : xj_chk prog_3_method_12_code 4 xc_21 68 = true := by decide +kernel
set_option maxRecDepth 100000 in
theorem xk_22 : xj_chk prog_3_method_13_code 5 xc_22 55 = true := by decide +kernel
set_option maxRecDepth 100000 in
theorem xk_23 : xj_chk prog_3_method_14_code 5 xc_23 23 = true := by decide +kernel
set_option maxRecDepth 100000 in
theorem xk_24 : xj_chk prog_3_method_15_code 7 xc_24 84 = true := by decide +kernel
set_option maxRecDepth 100000 in
theorem xk_25 : xj_chk prog_3_method_16_code 5 xc_25 40 = true := by decide +kernel
set_option maxRecDepth 100000 in
theorem xk_26 : xj_chk prog_3_method_17_code 4 xc_26 90 = true := by decide +kernel
set_option maxRecDepth 100000 in
theorem xk_27 : xj_chk prog_1_method_1_code 1 xc_27 38 = true := by decide +kernel
set_option maxRecDepth 100000 in
theorem xk_28 : xj_chk prog_1_method_2_code 5 xc_28 106 = true := by decide +kernel
set_option maxRecDepth 100000 in
theorem xk_29 : xj_chk prog_1_method_3_code 3 xc_29 64 = true := by decide +kernel
end
section
set_option maxRecDepth 100000 in
theorem xk_30 : xj_chk prog_1_method_4_code 4 xc_30 76 = true := by decide +kernel
set_option maxRecDepth 100000 in
theorem xk_31 : xj_chk prog_1_method_5_code 5 xc_31 70 = true := by decide +kernel
set_option maxRecDepth 100000 in
theorem xk_32 : xj_chk prog_1_method_6_code 2 xc_32 72 = true := by decide +kernel
set_option maxRecDepth 100000 in
theorem xk_33 : xj_chk prog_1_method_7_code 3 xc_33 73 = true := by decide +kernel
set_option maxRecDepth 100000 in
theorem xk_34 : xj_chk prog_1_method_8_code 3 xc_34 65 = true := by decide +kernel
set_option maxRecDepth 100000 in
theorem xk_35 : xj_chk prog_1_method_9_code 2 xc_35 21 = true := by decide +kernel
set_option maxRecDepth 100000 in
theorem xk_36 : xj_chk prog_1_method_10_code 1 xc_36 8 = true := by decide +kernel
set_option maxRecDepth 100000 in
theorem xk_37 : xj_chk prog_1_method_11_code 3 xc_37 86 = true := by decide +kernel
set_option maxRecDepth 100000 in
theorem xk_38 : xj_chk prog_1_method_12_code 4 xc_38 68 = true := by decide +kernel
set_option maxRecDepth 100000 in
theorem xk_39 : xj_chk prog_1_method_13_code 3 xc_39 33 = true := by decide +kernel
set_option maxRecDepth 100000 in
theorem xk_40 : xj_chk prog_1_method_14_code 1 xc_40 8 = true := by decide +kernel
set_option maxRecDepth 100000 in
theorem xk_41 : xj_chk prog_1_method_15_code 4 xc_41 86 = true := by decide +kernel
set_option maxRecDepth 100000 in
theorem xk_42 : xj_chk prog_1_method_16_code 1 xc_42 15 = true := by decide +kernel
set_option maxRecDepth 100000 in
theorem xk_43 : xj_chk prog_1_method_17_code 1 xc_43 17 = true := by decide +kernel
set_option maxRecDepth 100000 in
theorem xk_44 : xj_chk prog_1_method_18_code 3 xc_44 23 = true := by decide +kernel
set_option maxRecDepth 100000 in
theorem xk_45_0 : xj_chkR prog_1_method_19_code 5 xc_45 0 60 = true := by decide +kernel
end
section
set_option maxRecDepth 100000 in
theorem xk_45_1 : xj_chkR prog_1_method_19_code 5 xc_45 60 60 = true := by decide +kernel
set_option maxRecDepth 100000 in
theorem xk_45_2 : xj_chkR prog_1_method_19_code 5 xc_45 120 60 = true := by decide +kernel
set_option maxRecDepth 100000 in
theorem xk_45_3 : xj_chkR prog_1_method_19_code 5 xc_45 180 17 = true := by decide +kernel
set_option maxRecDepth 100000 in
theorem xk_46 : xj_chk prog_1_method_20_code 3 xc_46 34 = true := by decide +kernel
set_option maxRecDepth 100000 in
theorem xk_47 : xj_chk prog_1_method_21_code 1 xc_47 22 = true := by decide +kernel
set_option maxRecDepth 100000 in
theorem xk_48 : xj_chk prog_1_method_22_code 5 xc_48 106 = true := by decide +kernel
set_option maxRecDepth 100000 in
theorem xk_49 : xj_chk prog_1_method_23_code 2 xc_49 51 = true := by decide +kernel
set_option maxRecDepth 100000 in
theorem xk_50 : xj_chk prog_1_method_24_code 3 xc_50 86 = true := by decide +kernel
set_option maxRecDepth 100000 in
theorem xk_51 : xj_chk prog_1_method_25_code 2 xc_51 72 = true := by decide +kernel
set_option maxRecDepth 100000 in
theorem xk_52 : xj_chk prog_1_method_26_code 3 xc_52 95 = true := by decide +kernel
end
section
set_option maxRecDepth 100000 in
theorem xk_53 : xj_chk prog_1_method_27_code 4 xc_53 84 = true := by decide +kernel
set_option maxRecDepth 100000 in
theorem xk_54 : xj_chk prog_1_method_28_code 3 xc_54 78 = true := by decide +kernel
set_option maxRecDepth 100000 in
theorem xk_55 : xj_chk prog_1_method_29_code 2 xc_55 43 = true := by decide +kernel
set_option maxRecDepth 100000 in
theorem xk_56 : xj_chk prog_1_method_30_code 3 xc_56 47 = true := by decide +kernel
set_option maxRecDepth 100000 in
theorem xk_57 : xj_chk prog_1_method_31_code 4 xc_57 41 = true := by decide +kernel
set_option maxRecDepth 100000 in
theorem xk_58 : xj_chk prog_1_method_32_code 4 xc_58 122 = true := by decide +kernel
set_option maxRecDepth 100000 in
theorem xk_59 : xj_chk prog_1_method_33_code 4 xc_59 52 = true := by decide +kernel
set_option maxRecDepth 100000 in
theorem xk_60 : xj_chk prog_1_method_34_code 3 xc_60 26 = true := by decide +kernel
set_option maxRecDepth 100000 in
theorem xk_61 : xj_chk prog_1_method_35_code 3 xc_61 43 = true := by decide +kernel
set_option maxRecDepth 100000 in
theorem xk_62 : xj_chk prog_1_method_36_code 4 xc_62 90 = true := by decide +kernel
set_option maxRecDepth 100000 in
theorem xk_63 : xj_chk prog_1_method_37_code 4 xc_63 48 = true := by decide +kernel
set_option maxRecDepth 100000 in
theorem xk_64 : xj_chk prog_1_method_38_code 5 xc_64 59 = true := by decide +kernel
set_option maxRecDepth 100000 in
theorem xk_65 : xj_chk prog_1_method_39_code 7 xc_65 63 = true := by decide +kernel
set_option maxRecDepth 100000 in
theorem xk_66 : xj_chk prog_1_method_40_code 4 xc_66 57 = true := by decide +kernel
end
section
set_option maxRecDepth 100000 in
theorem xk_67_0 : xj_chkR prog_5_method_1_code 1 xc_67 0 60 = true := by decide +kernel
set_option maxRecDepth 100000 in
theorem xk_67_1 : xj_chkR prog_5_method_1_code 1 xc_67 60 60 = true := by decide +kernel
set_option maxRecDepth 100000 in
theorem xk_67_2 : xj_chkR prog_5_method_1_code 1 xc_67 120 60 = true := by decide +kernel
set_option maxRecDepth 100000 in
theorem xk_67_3 : xj_chkR prog_5_method_1_code 1 xc_67 180 60 = true := by decide +kernel
set_option maxRecDepth 100000 in
theorem xk_67_4 : xj_chkR prog_5_method_1_code 1 xc_67 240 23 = true := by decide +kernel
set_option maxRecDepth 100000 in
theorem xk_68 : xj_chk prog_5_method_2_code 1 xc_68 5 = true := by decide +kernel
set_option maxRecDepth 100000 in
theorem xk_69 : xj_chk prog_5_method_3_code 2 xc_69 7 = true := by decide +kernel
set_option maxRecDepth 100000 in
theorem xk_70 : xj_chk prog_5_method_4_code 2 xc_70 15 = true := by decide +kernel
end
section
set_option maxRecDepth 100000 in
theorem xk_71 : xj_chk prog_5_method_5_code 4 xc_71 135 = true := by decide +kernel
set_option maxRecDepth 100000 in
theorem xk_72 : xj_chk prog_5_method_6_code 3 xc_72 127 = true := by decide +kernel
set_option maxRecDepth 100000 in
theorem xk_73 : xj_chk prog_5_method_7_code 2 xc_73 18 = true := by decide +kernel
set_option maxRecDepth 100000 in
theorem xk_74_0 : xj_chkR prog_5_method_8_code 6 xc_74 0 60 = true := by decide +kernel
set_option maxRecDepth 100000 in
theorem xk_74_1 : xj_chkR prog_5_method_8_code 6 xc_74 60 60 = true := by decide +kernel
set_option maxRecDepth 100000 in
theorem xk_74_2 : xj_chkR prog_5_method_8_code 6 xc_74 120 60 = true := by decide +kernel
set_option maxRecDepth 100000 in
theorem xk_74_3 : xj_chkR prog_5_method_8_code 6 xc_74 180 6 = true := by decide +kernel
end
section
set_option maxRecDepth 100000 in
theorem xk_75 : xj_chk prog_5_method_9_code 5 xc_75 78 = true := by decide +kernel
set_option maxRecDepth 100000 in
theorem xk_76 : xj_chk prog_5_method_10_code 2 xc_76 26 = true := by decide +kernel
set_option maxRecDepth 100000 in
theorem xk_77 : xj_chk prog_5_method_11_code 2 xc_77 12 = true := by decide +kernel
set_option maxRecDepth 100000 in
theorem xk_78 : xj_chk prog_5_method_12_code 3 xc_78 22 = true := by decide +kernel
set_option maxRecDepth 100000 in
theorem xk_79 : xj_chk prog_5_method_13_code 4 xc_79 54 = true := by decide +kernel
set_option maxRecDepth 100000 in
theorem xk_80 : xj_chk prog_5_method_14_code 2 xc_80 30 = true := by decide +kernel
set_option maxRecDepth 100000 in
theorem xk_81 : xj_chk prog_5_method_15_code 3 xc_81 76 = true := by decide +kernel
set_option maxRecDepth 100000 in
theorem xk_82 : xj_chk prog_5_method_16_code 7 xc_82 159 = true := by decide +kernel
set_option maxRecDepth 100000 in
theorem xk_83 : xj_chk prog_5_method_17_code 4 xc_83 90 = true := by decide +kernel
set_option maxRecDepth 100000 in
theorem xk_84 : xj_chk prog_5_method_18_code 1 xc_84 65 = true := by decide +kernel
set_option maxRecDepth 100000 in
theorem xk_85_0 : xj_chkR prog_5_method_19_code 5 xc_85 0 60 = true := by decide +kernel
end
section
set_option maxRecDepth 100000 in
theorem xk_85_1 : xj_chkR prog_5_method_19_code 5 xc_85 60 60 = true := by decide +kernel
set_option maxRecDepth 100000 in
theorem xk_85_2 : xj_chkR prog_5_method_19_code 5 xc_85 120 46 = true := by decide +kernel
set_option maxRecDepth 100000 in
theorem xk_86 : xj_chk prog_5_method_20_code 3 xc_86 52 = true := by decide +kernel
set_option maxRecDepth 100000 in
theorem xk_87 : xj_chk prog_5_method_21_code 3 xc_87 61 = true := by decide +kernel
set_option maxRecDepth 100000 in
theorem xk_88_0 : xj_chkR prog_5_method_22_code 6 xc_88 0 60 = true := by decide +kernel
set_option maxRecDepth 100000 in
theorem xk_88_1 : xj_chkR prog_5_method_22_code 6 xc_88 60 60 = true := by decide +kernel
set_option maxRecDepth 100000 in
theorem xk_88_2 : xj_chkR prog_5_method_22_code 6 xc_88 120 47 = true := by decide +kernel
end
section
set_option maxRecDepth 100000 in
theorem xk_89 : xj_chk prog_5_method_23_code 5 xc_89 153 = true := by decide +kernel
set_option maxRecDepth 100000 in
theorem xk_90 : xj_chk prog_5_method_24_code 5 xc_90 69 = true := by decide +kernel
set_option maxRecDepth 100000 in
theorem xk_91 : xj_chk prog_5_method_25_code 5 xc_91 106 = true := by decide +kernel
set_option maxRecDepth 100000 in
theorem xk_92 : xj_chk prog_5_method_26_code 4 xc_92 65 = true := by decide +kernel
set_option maxRecDepth 100000 in
theorem xk_93 : xj_chk prog_5_method_27_code 2 xc_93 45 = true := by decide +kernel
set_option maxRecDepth 100000 in
theorem xk_94 : xj_chk prog_5_method_28_code 2 xc_94 66 = true := by decide +kernel
set_option maxRecDepth 100000 in
theorem xk_95 : xj_chk prog_5_method_29_code 2 xc_95 63 = true := by decide +kernel
set_option maxRecDepth 100000 in
theorem xk_96 : xj_chk prog_5_method_30_code 2 xc_96 79 = true := by decide +kernel
set_option maxRecDepth 100000 in
theorem xk_97 : xj_chk prog_5_method_31_code 3 xc_97 78 = true := by decide +kernel
end
section
set_option maxRecDepth 100000 in
theorem xk_98_0 : xj_chkR prog_5_method_32_code 2 xc_98 0 60 = true := by decide +kernel
set_option maxRecDepth 100000 in
theorem xk_98_1 : xj_chkR prog_5_method_32_code 2 xc_98 60 60 = true := by decide +kernel
set_option maxRecDepth 100000 in
theorem xk_98_2 : xj_chkR prog_5_method_32_code 2 xc_98 120 44 = true := by decide +kernel
set_option maxRecDepth 100000 in
theorem xk_99 : xj_chk prog_5_method_33_code 2 xc_99 154 = true := by decide +kernel
set_option maxRecDepth 100000 in
theorem xk_100 : xj_chk prog_5_method_34_code 2 xc_100 26 = true := by decide +kernel
set_option maxRecDepth 100000 in
theorem xk_101 : xj_chk prog_5_method_35_code 3 xc_101 80 = true := by decide +kernel
end
section
set_option maxRecDepth 100000 in
theorem xk_102_0 : xj_chkR prog_5_method_36_code 5 xc_102 0 60 = true := by decide +kernel
set_option maxRecDepth 100000 in
theorem xk_102_1 : xj_chkR prog_5_method_36_code 5 xc_102 60 60 = true := by decide +kernel
set_option maxRecDepth 100000 in
theorem xk_102_2 : xj_chkR prog_5_method_36_code 5 xc_102 120 60 = true := by decide +kernel
set_option maxRecDepth 100000 in
theorem xk_102_3 : xj_chkR prog_5_method_36_code 5 xc_102 180 37 = true := by decide +kernel
set_option maxRecDepth 100000 in
theorem xk_103 : xj_chk prog_5_method_37_code 3 xc_103 49 = true := by decide +kernel
set_option maxRecDepth 100000 in
theorem xk_104 : xj_chk prog_5_method_38_code 3 xc_104 35 = true := by decide +kernel
set_option maxRecDepth 100000 in
theorem xk_105 : xj_chk prog_5_method_39_code 3 xc_105 20 = true := by decide +kernel
set_option maxRecDepth 100000 in
theorem xk_106 : xj_chk prog_5_method_40_code 5 xc_106 121 = true := by decide +kernel
end
section
set_option maxRecDepth 100000 in
theorem xk_107 : xj_chk prog_5_method_41_code 3 xc_107 67 = true := by decide +kernel
set_option maxRecDepth 100000 in
theorem xk_108 : xj_chk prog_5_method_42_code 2 xc_108 24 = true := by decide +kernel
set_option maxRecDepth 100000 in
theorem xk_109 : xj_chk prog_5_method_43_code 1 xc_109 10 = true := by decide +kernel
set_option maxRecDepth 100000 in
theorem xk_110 : xj_chk prog_5_method_44_code 3 xc_110 82 = true := by decide +kernel
set_option maxRecDepth 100000 in
theorem xk_111 : xj_chk prog_5_method_45_code 4 xc_111 88 = true := by decide +kernel
set_option maxRecDepth 100000 in
theorem xk_112 : xj_chk prog_5_method_46_code 1 xc_112 10 = true := by decide +kernel
set_option maxRecDepth 100000 in
theorem xk_113 : xj_chk prog_5_method_47_code 4 xc_113 66 = true := by decide +kernel
set_option maxRecDepth 100000 in
theorem xk_114 : xj_chk method_3_code 6 xc_114 25 = true := by decide +kernel
set_option maxRecDepth 100000 in
theorem xk_115 : xj_chk method_4_code 5 xc_115 23 = true := by decide +kernel
set_option maxRecDepth 100000 in
theorem xk_116 : xj_chk method_5_code 6 xc_116 25 = true := by decide +kernel
set_option maxRecDepth 100000 in
theorem xk_117 : xj_chk method_6_code 6 xc_117 22 = true := by decide +kernel
set_option maxRecDepth 100000 in
theorem xk_118 : xj_chk method_7_code 4 xc_118 23 = true := by decide +kernel
set_option maxRecDepth 100000 in
theorem xk_119 : xj_chk method_8_code 5 xc_119 31 = true := by decide +kernel
set_option maxRecDepth 100000 in
theorem xk_120 : xj_chk method_9_code 5 xc_120 23 = true := by decide +kernel
end
section
theorem xd_0 {pc nx : Nat} {i : Instr} (ht : xc_0 pc = some (i, nx)) : xj_dec code 7 pc i nx := by
  have hl : pc < 835 := by
    rcases Nat.lt_or_ge pc 835 with h9 | h9
    · exact h9
    · have h8 : xc_0 pc = none := xj_cout h9
      rw [h8] at ht; cases ht
  rcases Nat.lt_or_ge pc 40 with h | h
  · exact xj_chkR_ok xk_0_0 (by omega) (by omega) ht
  rcases Nat.lt_or_ge pc 80 with h | h
  · exact xj_chkR_ok xk_0_1 (by omega) (by omega) ht
  rcases Nat.lt_or_ge pc 120 with h | h
  · exact xj_chkR_ok xk_0_2 (by omega) (by omega) ht
  rcases Nat.lt_or_ge pc 160 with h | h
  · exact xj_chkR_ok xk_0_3 (by omega) (by omega) ht
  rcases Nat.lt_or_ge pc 200 with h | h
  · exact xj_chkR_ok xk_0_4 (by omega) (by omega) ht
  rcases Nat.lt_or_ge pc 240 with h | h
  · exact xj_chkR_ok xk_0_5 (by omega) (by omega) ht
  rcases Nat.lt_or_ge pc 280 with h | h
  · exact xj_chkR_ok xk_0_6 (by omega) (by omega) ht
  rcases Nat.lt_or_ge pc 320 with h | h
  · exact xj_chkR_ok xk_0_7 (by omega) (by omega) ht
  rcases Nat.lt_or_ge pc 360 with h | h
  · exact xj_chkR_ok xk_0_8 (by omega) (by omega) ht
  rcases Nat.lt_or_ge pc 400 with h | h
  · exact xj_chkR_ok xk_0_9 (by omega) (by omega) ht
  rcases Nat.lt_or_ge pc 440 with h | h
  · exact xj_chkR_ok xk_0_10 (by omega) (by omega) ht
  rcases Nat.lt_or_ge pc 480 with h | h
  · exact xj_chkR_ok xk_0_11 (by omega) (by omega) ht
  rcases Nat.lt_or_ge pc 520 with h | h
  · exact xj_chkR_ok xk_0_12 (by omega) (by omega) ht
  rcases Nat.lt_or_ge pc 560 with h | h
  · exact xj_chkR_ok xk_0_13 (by omega) (by omega) ht
  rcases Nat.lt_or_ge pc 600 with h | h
  · exact xj_chkR_ok xk_0_14 (by omega) (by omega) ht
  rcases Nat.lt_or_ge pc 640 with h | h
  · exact xj_chkR_ok xk_0_15 (by omega) (by omega) ht
  rcases Nat.lt_or_ge pc 680 with h | h
  · exact xj_chkR_ok xk_0_16 (by omega) (by omega) ht
  rcases Nat.lt_or_ge pc 720 with h | h
  · exact xj_chkR_ok xk_0_17 (by omega) (by omega) ht
  rcases Nat.lt_or_ge pc 760 with h | h
  · exact xj_chkR_ok xk_0_18 (by omega) (by omega) ht
  rcases Nat.lt_or_ge pc 800 with h | h
  · exact xj_chkR_ok xk_0_19 (by omega) (by omega) ht
  exact xj_chkR_ok xk_0_20 (by omega) (by omega) ht
theorem xd_1 {pc nx : Nat} {i : Instr} (ht : xc_1 pc = some (i, nx)) : xj_dec prog_9_method_50_code 3 pc i nx := xj_chk_ok xk_1 (fun _ h => xj_cout h) ht
theorem xd_2 {pc nx : Nat} {i : Instr} (ht : xc_2 pc = some (i, nx)) : xj_dec prog_2_method_1_code 1 pc i nx := xj_chk_ok xk_2 (fun _ h => xj_cout h) ht
theorem xd_3 {pc nx : Nat} {i : Instr} (ht : xc_3 pc = some (i, nx)) : xj_dec prog_2_method_2_code 1 pc i nx := xj_chk_ok xk_3 (fun _ h => xj_cout h) ht
theorem xd_4 {pc nx : Nat} {i : Instr} (ht : xc_4 pc = some (i, nx)) : xj_dec prog_2_method_3_code 2 pc i nx := xj_chk_ok xk_4 (fun _ h => xj_cout h) ht
theorem xd_5 {pc nx : Nat} {i : Instr} (ht : xc_5 pc = some (i, nx)) : xj_dec prog_2_method_4_code 2 pc i nx := xj_chk_ok xk_5 (fun _ h => xj_cout h) ht
theorem xd_6 {pc nx : Nat} {i : Instr} (ht : xc_6 pc = some (i, nx)) : xj_dec prog_2_method_5_code 2 pc i nx := xj_chk_ok xk_6 (fun _ h => xj_cout h) ht
theorem xd_7 {pc nx : Nat} {i : Instr} (ht : xc_7 pc = some (i, nx)) : xj_dec prog_2_method_6_code 3 pc i nx := xj_chk_ok xk_7 (fun _ h => xj_cout h) ht
theorem xd_8 {pc nx : Nat} {i : Instr} (ht : xc_8 pc = some (i, nx)) : xj_dec prog_2_method_7_code 4 pc i nx := xj_chk_ok xk_8 (fun _ h => xj_cout h) ht
theorem xd_9 {pc nx : Nat} {i : Instr} (ht : xc_9 pc = some (i, nx)) : xj_dec prog_2_method_8_code 2 pc i nx := xj_chk_ok xk_9 (fun _ h => xj_cout h) ht
theorem xd_10 {pc nx : Nat} {i : Instr} (ht : xc_10 pc = some (i, nx)) : xj_dec prog_3_method_1_code 1 pc i nx := xj_chk_ok xk_10 (fun _ h => xj_cout h) ht
theorem xd_11 {pc nx : Nat} {i : Instr} (ht : xc_11 pc = some (i, nx)) : xj_dec prog_3_method_2_code 2 pc i nx := xj_chk_ok xk_11 (fun _ h => xj_cout h) ht
theorem xd_12 {pc nx : Nat} {i : Instr} (ht : xc_12 pc = some (i, nx)) : xj_dec prog_3_method_3_code 2 pc i nx := xj_chk_ok xk_12 (fun _ h => xj_cout h) ht
theorem xd_13 {pc nx : Nat} {i : Instr} (ht : xc_13 pc = some (i, nx)) : xj_dec prog_3_method_4_code 2 pc i nx := xj_chk_ok xk_13 (fun _ h => xj_cout h) ht
theorem xd_14 {pc nx : Nat} {i : Instr} (ht : xc_14 pc = some (i, nx)) : xj_dec prog_3_method_5_code 3 pc i nx := xj_chk_ok xk_14 (fun _ h => xj_cout h) ht
theorem xd_15 {pc nx : Nat} {i : Instr} (ht : xc_15 pc = some (i, nx)) : xj_dec prog_3_method_6_code 3 pc i nx := xj_chk_ok xk_15 (fun _ h => xj_cout h) ht
theorem xd_16 {pc nx : Nat} {i : Instr} (ht : xc_16 pc = some (i, nx)) : xj_dec prog_3_method_7_code 4 pc i nx := xj_chk_ok xk_16 (fun _ h => xj_cout h) ht
theorem xd_17 {pc nx : Nat} {i : Instr} (ht : xc_17 pc = some (i, nx)) : xj_dec prog_3_method_8_code 3 pc i nx := xj_chk_ok xk_17 (fun _ h => xj_cout h) ht
theorem xd_18 {pc nx : Nat} {i : Instr} (ht : xc_18 pc = some (i, nx)) : xj_dec prog_3_method_9_code 5 pc i nx := xj_chk_ok xk_18 (fun _ h => xj_cout h) ht
theorem xd_19 {pc nx : Nat} {i : Instr} (ht : xc_19 pc = some (i, nx)) : xj_dec prog_3_method_10_code 2 pc i nx := xj_chk_ok xk_19 (fun _ h => xj_cout h) ht
theorem xd_20 {pc nx : Nat} {i : Instr} (ht : xc_20 pc = some (i, nx)) : xj_dec prog_3_method_11_code 2 pc i nx := xj_chk_ok xk_20 (fun _ h => xj_cout h) ht
theorem xd_21 {pc nx : Nat} {i : Instr} (ht : xc_21 pc = some (i, nx)) : xj_dec prog_3_method_12_code 4 pc i nx := xj_chk_ok xk_21 (fun _ h => xj_cout h) ht
theorem xd_22 {pc nx : Nat} {i : Instr} (ht : xc_22 pc = some (i, nx)) : xj_dec prog_3_method_13_code 5 pc i nx := xj_chk_ok xk_22 (fun _ h => xj_cout h) ht
theorem xd_23 {pc nx : Nat} {i : Instr} (ht : xc_23 pc = some (i, nx)) : xj_dec prog_3_method_14_code 5 pc i nx := xj_chk_ok xk_23 (fun _ h => xj_cout h) ht
theorem xd_24 {pc nx : Nat} {i : Instr} (ht : xc_24 pc = some (i, nx)) : xj_dec prog_3_method_15_code 7 pc i nx := xj_chk_ok xk_24 (fun _ h => xj_cout h) ht
theorem xd_25 {pc nx : Nat} {i : Instr} (ht : xc_25 pc = some (i, nx)) : xj_dec prog_3_method_16_code 5 pc i nx := xj_chk_ok xk_25 (fun _ h => xj_cout h) ht
theorem xd_26 {pc nx : Nat} {i : Instr} (ht : xc_26 pc = some (i, nx)) : xj_dec prog_3_method_17_code 4 pc i nx := xj_chk_ok xk_26 (fun _ h => xj_cout h) ht
theorem xd_27 {pc nx : Nat} {i : Instr} (ht : xc_27 pc = some (i, nx)) : xj_dec prog_1_method_1_code 1 pc i nx := xj_chk_ok xk_27 (fun _ h => xj_cout h) ht
theorem xd_28 {pc nx : Nat} {i : Instr} (ht : xc_28 pc = some (i, nx)) : xj_dec prog_1_method_2_code 5 pc i nx := xj_chk_ok xk_28 (fun _ h => xj_cout h) ht
theorem xd_29 {pc nx : Nat} {i : Instr} (ht : xc_29 pc = some (i, nx)) : xj_dec prog_1_method_3_code 3 pc i nx := xj_chk_ok xk_29 (fun _ h => xj_cout h) ht
theorem xd_30 {pc nx : Nat} {i : Instr} (ht : xc_30 pc = some (i, nx)) : xj_dec prog_1_method_4_code 4 pc i nx := xj_chk_ok xk_30 (fun _ h => xj_cout h) ht
theorem xd_31 {pc nx : Nat} {i : Instr} (ht : xc_31 pc = some (i, nx)) : xj_dec prog_1_method_5_code 5 pc i nx := xj_chk_ok xk_31 (fun _ h => xj_cout h) ht
theorem xd_32 {pc nx : Nat} {i : Instr} (ht : xc_32 pc = some (i, nx)) : xj_dec prog_1_method_6_code 2 pc i nx := xj_chk_ok xk_32 (fun _ h => xj_cout h) ht
theorem xd_33 {pc nx : Nat} {i : Instr} (ht : xc_33 pc = some (i, nx)) : xj_dec prog_1_method_7_code 3 pc i nx := xj_chk_ok xk_33 (fun _ h => xj_cout h) ht
theorem xd_34 {pc nx : Nat} {i : Instr} (ht : xc_34 pc = some (i, nx)) : xj_dec prog_1_method_8_code 3 pc i nx := xj_chk_ok xk_34 (fun _ h => xj_cout h) ht
theorem xd_35 {pc nx : Nat} {i : Instr} (ht : xc_35 pc = some (i, nx)) : xj_dec prog_1_method_9_code 2 pc i nx := xj_chk_ok xk_35 (fun _ h => xj_cout h) ht
theorem xd_36 {pc nx : Nat} {i : Instr} (ht : xc_36 pc = some (i, nx)) : xj_dec prog_1_method_10_code 1 pc i nx := xj_chk_ok xk_36 (fun _ h => xj_cout h) ht
theorem xd_37 {pc nx : Nat} {i : Instr} (ht : xc_37 pc = some (i, nx)) : xj_dec prog_1_method_11_code 3 pc i nx := xj_chk_ok xk_37 (fun _ h => xj_cout h) ht
theorem xd_38 {pc nx : Nat} {i : Instr} (ht : xc_38 pc = some (i, nx)) : xj_dec prog_1_method_12_code 4 pc i nx := xj_chk_ok xk_38 (fun _ h => xj_cout h) ht
theorem xd_39 {pc nx : Nat} {i : Instr} (ht : xc_39 pc = some (i, nx)) : xj_dec prog_1_method_13_code 3 pc i nx := xj_chk_ok xk_39 (fun _ h => xj_cout h) ht
theorem xd_40 {pc nx : Nat} {i : Instr} (ht : xc_40 pc = some (i, nx)) : xj_dec prog_1_method_14_code 1 pc i nx := xj_chk_ok xk_40 (fun _ h => xj_cout h) ht
theorem xd_41 {pc nx : Nat} {i : Instr} (ht : xc_41 pc = some (i, nx)) : xj_dec prog_1_method_15_code 4 pc i nx := xj_chk_ok xk_41 (fun _ h => xj_cout h) ht
theorem xd_42 {pc nx : Nat} {i : Instr} (ht : xc_42 pc = some (i, nx)) : xj_dec prog_1_method_16_code 1 pc i nx := xj_chk_ok xk_42 (fun _ h => xj_cout h) ht
theorem xd_43 {pc nx : Nat} {i : Instr} (ht : xc_43 pc = some (i, nx)) : xj_dec prog_1_method_17_code 1 pc i nx := xj_chk_ok xk_43 (fun _ h => xj_cout h) ht
theorem xd_44 {pc nx : Nat} {i : Instr} (ht : xc_44 pc = some (i, nx)) : xj_dec prog_1_method_18_code 3 pc i nx := xj_chk_ok xk_44 (fun _ h => xj_cout h) ht
theorem xd_45 {pc nx : Nat} {i : Instr} (ht : xc_45 pc = some (i, nx)) : xj_dec prog_1_method_19_code 5 pc i nx := by
  have hl : pc < 197 := by
    rcases Nat.lt_or_ge pc 197 with h9 | h9
    · exact h9
    · have h8 : xc_45 pc = none := xj_cout h9
      rw [h8] at ht; cases ht
  rcases Nat.lt_or_ge pc 60 with h | h
  · exact xj_chkR_ok xk_45_0 (by omega) (by omega) ht
  rcases Nat.lt_or_ge pc 120 with h | h
  · exact xj_chkR_ok xk_45_1 (by omega) (by omega) ht
  rcases Nat.lt_or_ge pc 180 with h | h
  · exact xj_chkR_ok xk_45_2 (by omega) (by omega) ht
  exact xj_chkR_ok xk_45_3 (by omega) (by omega) ht
theorem xd_46 {pc nx : Nat} {i : Instr} (ht : xc_46 pc = some (i, nx)) : xj_dec prog_1_method_20_code 3 pc i nx := xj_chk_ok xk_46 (fun _ h => xj_cout h) ht
theorem xd_47 {pc nx : Nat} {i : Instr} (ht : xc_47 pc = some (i, nx)) : xj_dec prog_1_method_21_code 1 pc i nx := xj_chk_ok xk_47 (fun _ h => xj_cout h) ht
theorem xd_48 {pc nx : Nat} {i : Instr} (ht : xc_48 pc = some (i, nx)) : xj_dec prog_1_method_22_code 5 pc i nx := xj_chk_ok xk_48 (fun _ h => xj_cout h) ht
theorem xd_49 {pc nx : Nat} {i : Instr} (ht : xc_49 pc = some (i, nx)) : xj_dec prog_1_method_23_code 2 pc i nx := xj_chk_ok xk_49 (fun _ h => xj_cout h) ht
theorem xd_50 {pc nx : Nat} {i : Instr} (ht : xc_50 pc = some (i, nx)) : xj_dec prog_1_method_24_code 3 pc i nx := xj_chk_ok xk_50 (fun _ h => xj_cout h) ht
theorem xd_51 {pc nx : Nat} {i : Instr} (ht : xc_51 pc = some (i, nx)) : xj_dec prog_1_method_25_code 2 pc i nx := xj_chk_ok xk_51 (fun _ h => xj_cout h) ht
theorem xd_52 {pc nx : Nat} {i : Instr} (ht : xc_52 pc = some (i, nx)) : xj_dec prog_1_method_26_code 3 pc i nx := xj_chk_ok xk_52 (fun _ h => xj_cout h) ht
theorem xd_53 {pc nx : Nat} {i : Instr} (ht : xc_53 pc = some (i, nx)) : xj_dec prog_1_method_27_code 4 pc i nx := xj_chk_ok xk_53 (fun _ h => xj_cout h) ht
theorem xd_54 {pc nx : Nat} {i : Instr} (ht : xc_54 pc = some (i, nx)) : xj_dec prog_1_method_28_code 3 pc i nx := xj_chk_ok xk_54 (fun _ h => xj_cout h) ht
theorem xd_55 {pc nx : Nat} {i : Instr} (ht : xc_55 pc = some (i, nx)) : xj_dec prog_1_method_29_code 2 pc i nx := xj_chk_ok xk_55 (fun _ h => xj_cout h) ht
theorem xd_56 {pc nx : Nat} {i : Instr} (ht : xc_56 pc = some (i, nx)) : xj_dec prog_1_method_30_code 3 pc i nx := xj_chk_ok xk_56 (fun _ h => xj_cout h) ht
theorem xd_57 {pc nx : Nat} {i : Instr} (ht : xc_57 pc = some (i, nx)) : xj_dec prog_1_method_31_code 4 pc i nx := xj_chk_ok xk_57 (fun _ h => xj_cout h) ht
theorem xd_58 {pc nx : Nat} {i : Instr} (ht : xc_58 pc = some (i, nx)) : xj_dec prog_1_method_32_code 4 pc i nx := xj_chk_ok xk_58 (fun _ h => xj_cout h) ht
theorem xd_59 {pc nx : Nat} {i : Instr} (ht : xc_59 pc = some (i, nx)) : xj_dec prog_1_method_33_code 4 pc i nx := xj_chk_ok xk_59 (fun _ h => xj_cout h) ht
theorem xd_60 {pc nx : Nat} {i : Instr} (ht : xc_60 pc = some (i, nx)) : xj_dec prog_1_method_34_code 3 pc i nx := xj_chk_ok xk_60 (fun _ h => xj_cout h) ht
theorem xd_61 {pc nx : Nat} {i : Instr} (ht : xc_61 pc = some (i, nx)) : xj_dec prog_1_method_35_code 3 pc i nx := xj_chk_ok xk_61 (fun _ h => xj_cout h) ht
theorem xd_62 {pc nx : Nat} {i : Instr} (ht : xc_62 pc = some (i, nx)) : xj_dec prog_1_method_36_code 4 pc i nx := xj_chk_ok xk_62 (fun _ h => xj_cout h) ht
theorem xd_63 {pc nx : Nat} {i : Instr} (ht : xc_63 pc = some (i, nx)) : xj_dec prog_1_method_37_code 4 pc i nx := xj_chk_ok xk_63 (fun _ h => xj_cout h) ht
theorem xd_64 {pc nx : Nat} {i : Instr} (ht : xc_64 pc = some (i, nx)) : xj_dec prog_1_method_38_code 5 pc i nx := xj_chk_ok xk_64 (fun _ h => xj_cout h) ht
theorem xd_65 {pc nx : Nat} {i : Instr} (ht : xc_65 pc = some (i, nx)) : xj_dec prog_1_method_39_code 7 pc i nx := xj_chk_ok xk_65 (fun _ h => xj_cout h) ht
theorem xd_66 {pc nx : Nat} {i : Instr} (ht : xc_66 pc = some (i, nx)) : xj_dec prog_1_method_40_code 4 pc i nx := xj_chk_ok xk_66 (fun _ h => xj_cout h) ht
theorem xd_67 {pc nx : Nat} {i : Instr} (ht : xc_67 pc = some (i, nx)) : xj_dec prog_5_method_1_code 1 pc i nx := by
  have hl : pc < 263 := by
    rcases Nat.lt_or_ge pc 263 with h9 | h9
    · exact h9
    · have h8 : xc_67 pc = none := xj_cout h9
      rw [h8] at ht; cases ht
  rcases Nat.lt_or_ge pc 60 with h | h
  · exact xj_chkR_ok xk_67_0 (by omega) (by omega) ht
  rcases Nat.lt_or_ge pc 120 with h | h
  · exact xj_chkR_ok xk_67_1 (by omega) (by omega) ht
  rcases Nat.lt_or_ge pc 180 with h | h
  · exact xj_chkR_ok xk_67_2 (by omega) (by omega) ht
  rcases Nat.lt_or_ge pc 240 with h | h
  · exact xj_chkR_ok xk_67_3 (by omega) (by omega) ht
  exact xj_chkR_ok xk_67_4 (by omega) (by omega) ht
theorem xd_68 {pc nx : Nat} {i : Instr} (ht : xc_68 pc = some (i, nx)) : xj_dec prog_5_method_2_code 1 pc i nx := xj_chk_ok xk_68 (fun _ h => xj_cout h) ht
theorem xd_69 {pc nx : Nat} {i : Instr} (ht : xc_69 pc = some (i, nx)) : xj_dec prog_5_method_3_code 2 pc i nx := xj_chk_ok xk_69 (fun _ h => xj_cout h) ht
theorem xd_70 {pc nx : Nat} {i : Instr} (ht : xc_70 pc = some (i, nx)) : xj_dec prog_5_method_4_code 2 pc i nx := xj_chk_ok xk_70 (fun _ h => xj_cout h) ht
theorem xd_71 {pc nx : Nat} {i : Instr} (ht : xc_71 pc = some (i, nx)) : xj_dec prog_5_method_5_code 4 pc i nx := xj_chk_ok xk_71 (fun _ h => xj_cout h) ht
theorem xd_72 {pc nx : Nat} {i : Instr} (ht : xc_72 pc = some (i, nx)) : xj_dec prog_5_method_6_code 3 pc i nx := xj_chk_ok xk_72 (fun _ h => xj_cout h) ht
theorem xd_73 {pc nx : Nat} {i : Instr} (ht : xc_73 pc = some (i, nx)) : xj_dec prog_5_method_7_code 2 pc i nx := xj_chk_ok xk_73 (fun _ h => xj_cout h) ht
theorem xd_74 {pc nx : Nat} {i : Instr} (ht : xc_74 pc = some (i, nx)) : xj_dec prog_5_method_8_code 6 pc i nx := by
  have hl : pc < 186 := by
    rcases Nat.lt_or_ge pc 186 with h9 | h9
    · exact h9
    · have h8 : xc_74 pc = none := xj_cout h9
      rw [h8] at ht; cases ht
  rcases Nat.lt_or_ge pc 60 with h | h
  · exact xj_chkR_ok xk_74_0 (by omega) (by omega) ht
  rcases Nat.lt_or_ge pc 120 with h | h
  · exact xj_chkR_ok xk_74_1 (by omega) (by omega) ht
  rcases Nat.lt_or_ge pc 180 with h | h
  · exact xj_chkR_ok xk_74_2 (by omega) (by omega) ht
  exact xj_chkR_ok xk_74_3 (by omega) (by omega) ht
theorem xd_75 {pc nx : Nat} {i : Instr} (ht : xc_75 pc = some (i, nx)) : xj_dec prog_5_method_9_code 5 pc i nx := xj_chk_ok xk_75 (fun _ h => xj_cout h) ht
theorem xd_76 {pc nx : Nat} {i : Instr} (ht : xc_76 pc = some (i, nx)) : xj_dec prog_5_method_10_code 2 pc i nx := xj_chk_ok xk_76 (fun _ h => xj_cout h) ht
theorem xd_77 {pc nx : Nat} {i : Instr} (ht : xc_77 pc = some (i, nx)) : xj_dec prog_5_method_11_code 2 pc i nx := xj_chk_ok xk_77 (fun _ h => xj_cout h) ht
theorem xd_78 {pc nx : Nat} {i : Instr} (ht : xc_78 pc = some (i, nx)) : xj_dec prog_5_method_12_code 3 pc i nx := xj_chk_ok xk_78 (fun _ h => xj_cout h) ht
theorem xd_79 {pc nx : Nat} {i : Instr} (ht : xc_79 pc = some (i, nx)) : xj_dec prog_5_method_13_code 4 pc i nx := xj_chk_ok xk_79 (fun _ h => xj_cout h) ht
theorem xd_80 {pc nx : Nat} {i : Instr} (ht : xc_80 pc = some (i, nx)) : xj_dec prog_5_method_14_code 2 pc i nx := xj_chk_ok xk_80 (fun _ h => xj_cout h) ht
theorem xd_81 {pc nx : Nat} {i : Instr} (ht : xc_81 pc = some (i, nx)) : xj_dec prog_5_method_15_code 3 pc i nx := xj_chk_ok xk_81 (fun _ h => xj_cout h) ht
theorem xd_82 {pc nx : Nat} {i : Instr} (ht : xc_82 pc = some (i, nx)) : xj_dec prog_5_method_16_code 7 pc i nx := xj_chk_ok xk_82 (fun _ h => xj_cout h) ht
theorem xd_83 {pc nx : Nat} {i : Instr} (ht : xc_83 pc = some (i, nx)) : xj_dec prog_5_method_17_code 4 pc i nx := xj_chk_ok xk_83 (fun _ h => xj_cout h) ht
theorem xd_84 {pc nx : Nat} {i : Instr} (ht : xc_84 pc = some (i, nx)) : xj_dec prog_5_method_18_code 1 pc i nx := xj_chk_ok xk_84 (fun _ h => xj_cout h) ht
theorem xd_85 {pc nx : Nat} {i : Instr} (ht : xc_85 pc = some (i, nx)) : xj_dec prog_5_method_19_code 5 pc i nx := by
  have hl : pc < 166 := by
    rcases Nat.lt_or_ge pc 166 with h9 | h9
    · exact h9
    · have h8 : xc_85 pc = none := xj_cout h9
      rw [h8] at ht; cases ht
  rcases Nat.lt_or_ge pc 60 with h | h
  · exact xj_chkR_ok xk_85_0 (by omega) (by omega) ht
  rcases Nat.lt_or_ge pc 120 with h | h
  · exact xj_chkR_ok xk_85_1 (by omega) (by omega) ht
  exact xj_chkR_ok xk_85_2 (by omega) (by omega) ht
theorem xd_86 {pc nx : Nat} {i : Instr} (ht : xc_86 pc = some (i, nx)) : xj_dec prog_5_method_20_code 3 pc i nx := xj_chk_ok xk_86 (fun _ h => xj_cout h) ht
theorem xd_87 {pc nx : Nat} {i : Instr} (ht : xc_87 pc = some (i, nx)) : xj_dec prog_5_method_21_code 3 pc i nx := xj_chk_ok xk_87 (fun _ h => xj_cout h) ht
theorem xd_88 {pc nx : Nat} {i : Instr} (ht : xc_88 pc = some (i, nx)) : xj_dec prog_5_method_22_code 6 pc i nx := by
  have hl : pc < 167 := by
    rcases Nat.lt_or_ge pc 167 with h9 | h9
    · exact h9
    · have h8 : xc_88 pc = none := xj_cout h9
      rw [h8] at ht; cases ht
  rcases Nat.lt_or_ge pc 60 with h | h
  · exact xj_chkR_ok xk_88_0 (by omega) (by omega) ht
  rcases Nat.lt_or_ge pc 120 with h | h
  · exact xj_chkR_ok xk_88_1 (by omega) (by omega) ht
  exact xj_chkR_ok xk_88_2 (by omega) (by omega) ht
theorem xd_89 {pc nx : Nat} {i : Instr} (ht : xc_89 pc = some (i, nx)) : xj_dec prog_5_method_23_code 5 pc i nx := xj_chk_ok xk_89 (fun _ h => xj_cout h) ht
theorem xd_90 {pc nx : Nat} {i : Instr} (ht : xc_90 pc = some (i, nx)) : xj_dec prog_5_method_24_code 5 pc i nx := xj_chk_ok xk_90 (fun _ h => xj_cout h) ht
theorem xd_91 {pc nx : Nat} {i : Instr} (ht : xc_91 pc = some (i, nx)) : xj_dec prog_5_method_25_code 5 pc i nx := xj_chk_ok xk_91 (fun _ h => xj_cout h) ht
theorem xd_92 {pc nx : Nat} {i : Instr} (ht : xc_92 pc = some (i, nx)) : xj_dec prog_5_method_26_code 4 pc i nx := xj_chk_ok xk_92 (fun _ h => xj_cout h) ht
theorem xd_93 {pc nx : Nat} {i : Instr} (ht : xc_93 pc = some (i, nx)) : xj_dec prog_5_method_27_code 2 pc i nx := xj_chk_ok xk_93 (fun _ h => xj_cout h) ht
theorem xd_94 {pc nx : Nat} {i : Instr} (ht : xc_94 pc = some (i, nx)) : xj_dec prog_5_method_28_code 2 pc i nx := xj_chk_ok xk_94 (fun _ h => xj_cout h) ht
theorem xd_95 {pc nx : Nat} {i : Instr} (ht : xc_95 pc = some (i, nx)) : xj_dec prog_5_method_29_code 2 pc i nx := xj_chk_ok xk_95 (fun _ h => xj_cout h) ht
theorem xd_96 {pc nx : Nat} {i : Instr} (ht : xc_96 pc = some (i, nx)) : xj_dec prog_5_method_30_code 2 pc i nx := xj_chk_ok xk_96 (fun _ h => xj_cout h) ht
theorem xd_97 {pc nx : Nat} {i : Instr} (ht : xc_97 pc = some (i, nx)) : xj_dec prog_5_method_31_code 3 pc i nx := xj_chk_ok xk_97 (fun _ h => xj_cout h) ht
theorem xd_98 {pc nx : Nat} {i : Instr} (ht : xc_98 pc = some (i, nx)) : xj_dec prog_5_method_32_code 2 pc i nx := by
  have hl : pc < 164 := by
    rcases Nat.lt_or_ge pc 164 with h9 | h9
    · exact h9
    · have h8 : xc_98 pc = none := xj_cout h9
      rw [h8] at ht; cases ht
  rcases Nat.lt_or_ge pc 60 with h | h
  · exact xj_chkR_ok xk_98_0 (by omega) (by omega) ht
  rcases Nat.lt_or_ge pc 120 with h | h
  · exact xj_chkR_ok xk_98_1 (by omega) (by omega) ht
  exact xj_chkR_ok xk_98_2 (by omega) (by omega) ht
theorem xd_99 {pc nx : Nat} {i : Instr} (ht : xc_99 pc = some (i, nx)) : xj_dec prog_5_method_33_code 2 pc i nx := xj_chk_ok xk_99 (fun _ h => xj_cout h) ht
theorem xd_100 {pc nx : Nat} {i : Instr} (ht : xc_100 pc = some (i, nx)) : xj_dec prog_5_method_34_code 2 pc i nx := xj_chk_ok xk_100 (fun _ h => xj_cout h) ht
theorem xd_101 {pc nx : Nat} {i : Instr} (ht : xc_101 pc = some (i, nx)) : xj_dec prog_5_method_35_code 3 pc i nx := xj_chk_ok xk_101 (fun _ h => xj_cout h) ht
theorem xd_102 {pc nx : Nat} {i : Instr} (ht : xc_102 pc = some (i, nx)) : xj_dec prog_5_method_36_code 5 pc i nx := by
  have hl : pc < 217 := by
    rcases Nat.lt_or_ge pc 217 with h9 | h9
    · exact h9
    · have h8 : xc_102 pc = none := xj_cout h9
      rw [h8] at ht; cases ht
  rcases Nat.lt_or_ge pc 60 with h | h
  · exact xj_chkR_ok xk_102_0 (by omega) (by omega) ht
  rcases Nat.lt_or_ge pc 120 with h | h
  · exact xj_chkR_ok xk_102_1 (by omega) (by omega) ht
  rcases Nat.lt_or_ge pc 180 with h | h
  · exact xj_chkR_ok xk_102_2 (by omega) (by omega) ht
  exact xj_chkR_ok xk_102_3 (by omega) (by omega) ht
theorem xd_103 {pc nx : Nat} {i : Instr} (ht : xc_103 pc = some (i, nx)) : xj_dec prog_5_method_37_code 3 pc i nx := xj_chk_ok xk_103 (fun _ h => xj_cout h) ht
theorem xd_104 {pc nx : Nat} {i : Instr} (ht : xc_104 pc = some (i, nx)) : xj_dec prog_5_method_38_code 3 pc i nx := xj_chk_ok xk_104 (fun _ h => xj_cout h) ht
theorem xd_105 {pc nx : Nat} {i : Instr} (ht : xc_105 pc = some (i, nx)) : xj_dec prog_5_method_39_code 3 pc i nx := xj_chk_ok xk_105 (fun _ h => xj_cout h) ht
theorem xd_106 {pc nx : Nat} {i : Instr} (ht : xc_106 pc = some (i, nx)) : xj_dec prog_5_method_40_code 5 pc i nx := xj_chk_ok xk_106 (fun _ h => xj_cout h) ht
theorem xd_107 {pc nx : Nat} {i : Instr} (ht : xc_107 pc = some (i, nx)) : xj_dec prog_5_method_41_code 3 pc i nx := xj_chk_ok xk_107 (fun _ h => xj_cout h) ht
theorem xd_108 {pc nx : Nat} {i : Instr} (ht : xc_108 pc = some (i, nx)) : xj_dec prog_5_method_42_code 2 pc i nx := xj_chk_ok xk_108 (fun _ h => xj_cout h) ht
theorem xd_109 {pc nx : Nat} {i : Instr} (ht : xc_109 pc = some (i, nx)) : xj_dec prog_5_method_43_code 1 pc i nx := xj_chk_ok xk_109 (fun _ h => xj_cout h) ht
theorem xd_110 {pc nx : Nat} {i : Instr} (ht : xc_110 pc = some (i, nx)) : xj_dec prog_5_method_44_code 3 pc i nx := xj_chk_ok xk_110 (fun _ h => xj_cout h) ht
theorem xd_111 {pc nx : Nat} {i : Instr} (ht : xc_111 pc = some (i, nx)) : xj_dec prog_5_method_45_code 4 pc i nx := xj_chk_ok xk_111 (fun _ h => xj_cout h) ht
theorem xd_112 {pc nx : Nat} {i : Instr} (ht : xc_112 pc = some (i, nx)) : xj_dec prog_5_method_46_code 1 pc i nx := xj_chk_ok xk_112 (fun _ h => xj_cout h) ht
theorem xd_113 {pc nx : Nat} {i : Instr} (ht : xc_113 pc = some (i, nx)) : xj_dec prog_5_method_47_code 4 pc i nx := xj_chk_ok xk_113 (fun _ h => xj_cout h) ht
theorem xd_114 {pc nx : Nat} {i : Instr} (ht : xc_114 pc = some (i, nx)) : xj_dec method_3_code 6 pc i nx := xj_chk_ok xk_114 (fun _ h => xj_cout h) ht
theorem xd_115 {pc nx : Nat} {i : Instr} (ht : xc_115 pc = some (i, nx)) : xj_dec method_4_code 5 pc i nx := xj_chk_ok xk_115 (fun _ h => xj_cout h) ht
theorem xd_116 {pc nx : Nat} {i : Instr} (ht : xc_116 pc = some (i, nx)) : xj_dec method_5_code 6 pc i nx := xj_chk_ok xk_116 (fun _ h => xj_cout h) ht
theorem xd_117 {pc nx : Nat} {i : Instr} (ht : xc_117 pc = some (i, nx)) : xj_dec method_6_code 6 pc i nx := xj_chk_ok xk_117 (fun _ h => xj_cout h) ht
theorem xd_118 {pc nx : Nat} {i : Instr} (ht : xc_118 pc = some (i, nx)) : xj_dec method_7_code 4 pc i nx := xj_chk_ok xk_118 (fun _ h => xj_cout h) ht
theorem xd_119 {pc nx : Nat} {i : Instr} (ht : xc_119 pc = some (i, nx)) : xj_dec method_8_code 5 pc i nx := xj_chk_ok xk_119 (fun _ h => xj_cout h) ht
theorem xd_120 {pc nx : Nat} {i : Instr} (ht : xc_120 pc = some (i, nx)) : xj_dec method_9_code 5 pc i nx := xj_chk_ok xk_120 (fun _ h => xj_cout h) ht
end
section
/-! names and links of our methods and classes -/
def xT0 : u_T := fun k => match k with
  | 0 => ("CaseDesk$Life", "bound", "I", false)
  | 1 => ("CaseDesk$Life", "count", "I", false)
  | 2 => ("CaseDesk$Life", "item", "[I", true)
  | 3 => ("CaseDesk$Life", "parent", "[I", true)
  | 4 => ("CaseDesk$Life", "state", "[I", true)
  | 5 => ("CaseDesk$Life", "movesMade", "[I", true)
  | 6 => ("CaseDesk$Life", "marks", "[I", true)
  | 7 => ("CaseDesk$Life", "file", "[I", true)
  | 8 => ("CaseDesk$Life", "moveCount", "I", false)
  | 9 => ("CaseDesk$Life", "pastInstance", "[I", true)
  | _ => ("CaseDesk$Life", "pastMove", "[I", true)
def xt0 : Nat → FieldType := fun k => match k with
  | 0 => .int
  | 1 => .int
  | 2 => .array .int
  | 3 => .array .int
  | 4 => .array .int
  | 5 => .array .int
  | 6 => .array .int
  | 7 => .array .int
  | 8 => .int
  | 9 => .array .int
  | _ => .array .int
def xT1 : u_T := fun k => match k with
  | 0 => ("CaseDesk$Plan", "items", "I", false)
  | 1 => ("CaseDesk$Plan", "kind", "[I", true)
  | 2 => ("CaseDesk$Plan", "stage", "[I", true)
  | 3 => ("CaseDesk$Plan", "flags", "[I", true)
  | 4 => ("CaseDesk$Plan", "ownParts", "[I", true)
  | 5 => ("CaseDesk$Plan", "sentries", "I", false)
  | 6 => ("CaseDesk$Plan", "owner", "[I", true)
  | 7 => ("CaseDesk$Plan", "isExit", "[Z", true)
  | 8 => ("CaseDesk$Plan", "parts", "[I", true)
  | 9 => ("CaseDesk$Plan", "source", "[I", true)
  | 10 => ("CaseDesk$Plan", "awaited", "[I", true)
  | 11 => ("CaseDesk$Plan", "sign", "[I", true)
  | 12 => ("CaseDesk$Plan", "variable", "[I", true)
  | _ => ("CaseDesk$Plan", "number", "[I", true)
def xt1 : Nat → FieldType := fun k => match k with
  | 0 => .int
  | 1 => .array .int
  | 2 => .array .int
  | 3 => .array .int
  | 4 => .array .int
  | 5 => .int
  | 6 => .array .int
  | 7 => .array .boolean
  | 8 => .array .int
  | 9 => .array .int
  | 10 => .array .int
  | 11 => .array .int
  | 12 => .array .int
  | _ => .array .int
def xT2 : u_T := fun k => match k with
  | 0 => ("CaseDesk", "plan", "LCaseDesk$Plan;", true)
  | 1 => ("CaseDesk", "life", "LCaseDesk$Life;", true)
  | 2 => ("CaseDesk", "before", "LCaseDesk$Life;", true)
  | 3 => ("CaseDesk", "made", "I", false)
  | _ => ("CaseDesk", "cut", "Z", false)
def xt2 : Nat → FieldType := fun k => match k with
  | 0 => .object "CaseDesk$Plan"
  | 1 => .object "CaseDesk$Life"
  | 2 => .object "CaseDesk$Life"
  | 3 => .int
  | _ => .boolean
def xT3 : u_T := fun k => match k with
  | 0 => ("CaseDeskModel", "code", "I", false)
  | 1 => ("CaseDeskModel", "items", "I", false)
  | 2 => ("CaseDeskModel", "kind", "[I", true)
  | 3 => ("CaseDeskModel", "stage", "[I", true)
  | 4 => ("CaseDeskModel", "flags", "[I", true)
  | 5 => ("CaseDeskModel", "sentries", "I", false)
  | 6 => ("CaseDeskModel", "owner", "[I", true)
  | 7 => ("CaseDeskModel", "exits", "[Z", true)
  | 8 => ("CaseDeskModel", "ons", "[I", true)
  | 9 => ("CaseDeskModel", "source", "[I", true)
  | 10 => ("CaseDeskModel", "awaited", "[I", true)
  | 11 => ("CaseDeskModel", "asks", "[Z", true)
  | 12 => ("CaseDeskModel", "variable", "[I", true)
  | 13 => ("CaseDeskModel", "sign", "[I", true)
  | 14 => ("CaseDeskModel", "bar", "[I", true)
  | 15 => ("CaseDeskModel", "begun", "Z", false)
  | 16 => ("CaseDeskModel", "bound", "I", false)
  | 17 => ("CaseDeskModel", "count", "I", false)
  | 18 => ("CaseDeskModel", "item", "[I", true)
  | 19 => ("CaseDeskModel", "parent", "[I", true)
  | 20 => ("CaseDeskModel", "state", "[I", true)
  | 21 => ("CaseDeskModel", "made", "[I", true)
  | 22 => ("CaseDeskModel", "marks", "[I", true)
  | 23 => ("CaseDeskModel", "file", "[I", true)
  | 24 => ("CaseDeskModel", "total", "I", false)
  | 25 => ("CaseDeskModel", "who", "[I", true)
  | 26 => ("CaseDeskModel", "did", "[I", true)
  | 27 => ("CaseDeskModel", "wasCount", "I", false)
  | 28 => ("CaseDeskModel", "wasItem", "[I", true)
  | 29 => ("CaseDeskModel", "wasParent", "[I", true)
  | 30 => ("CaseDeskModel", "wasState", "[I", true)
  | 31 => ("CaseDeskModel", "wasMade", "[I", true)
  | 32 => ("CaseDeskModel", "wasMarks", "[I", true)
  | 33 => ("CaseDeskModel", "wasFile", "[I", true)
  | 34 => ("CaseDeskModel", "wasTotal", "I", false)
  | 35 => ("CaseDeskModel", "wasWho", "[I", true)
  | 36 => ("CaseDeskModel", "wasDid", "[I", true)
  | 37 => ("CaseDeskModel", "moves", "I", false)
  | 38 => ("CaseDeskModel", "cut", "Z", false)
  | 39 => ("CaseDeskModel", "top", "I", false)
  | 40 => ("CaseDeskModel", "pending", "[I", true)
  | 41 => ("CaseDeskModel", "pendingMove", "[I", true)
  | _ => ("CaseDeskModel", "pendingNext", "[I", true)
def xt3 : Nat → FieldType := fun k => match k with
  | 0 => .int
  | 1 => .int
  | 2 => .array .int
  | 3 => .array .int
  | 4 => .array .int
  | 5 => .int
  | 6 => .array .int
  | 7 => .array .boolean
  | 8 => .array .int
  | 9 => .array .int
  | 10 => .array .int
  | 11 => .array .boolean
  | 12 => .array .int
  | 13 => .array .int
  | 14 => .array .int
  | 15 => .boolean
  | 16 => .int
  | 17 => .int
  | 18 => .array .int
  | 19 => .array .int
  | 20 => .array .int
  | 21 => .array .int
  | 22 => .array .int
  | 23 => .array .int
  | 24 => .int
  | 25 => .array .int
  | 26 => .array .int
  | 27 => .int
  | 28 => .array .int
  | 29 => .array .int
  | 30 => .array .int
  | 31 => .array .int
  | 32 => .array .int
  | 33 => .array .int
  | 34 => .int
  | 35 => .array .int
  | 36 => .array .int
  | 37 => .int
  | 38 => .boolean
  | 39 => .int
  | 40 => .array .int
  | 41 => .array .int
  | _ => .array .int
def xcl : List vw_C := [("CaseDesk$Life", xT0, 11), ("CaseDesk$Plan", xT1, 14), ("CaseDesk", xT2, 5), ("CaseDeskModel", xT3, 43)]
def xty : Nat → Nat → FieldType := fun c => match c with
  | 0 => xt0
  | 1 => xt1
  | 2 => xt2
  | _ => xt3
def xyN : Nat → MethodName := fun m => cond (Nat.blt m 60) (cond (Nat.blt m 30) (cond (Nat.blt m 15) (cond (Nat.blt m 7) (cond (Nat.blt m 3) (cond (Nat.blt m 1) (⟨"CaseDeskLaw", "law", "([I)Z"⟩) (cond (Nat.blt m 2) (⟨"java/lang/Math", "floorMod", "(II)I"⟩) (⟨"CaseDesk$Life", "<init>", "()V"⟩))) (cond (Nat.blt m 5) (cond (Nat.blt m 4) (⟨"CaseDesk$Life", "hasBegun", "()Z"⟩) (⟨"CaseDesk$Life", "has", "(I)Z"⟩)) (cond (Nat.blt m 6) (⟨"CaseDesk$Life", "isFinal", "(I)Z"⟩) (⟨"CaseDesk$Life", "isWaiting", "(I)Z"⟩)))) (cond (Nat.blt m 11) (cond (Nat.blt m 9) (cond (Nat.blt m 8) (⟨"CaseDesk$Life", "add", "(II)I"⟩) (⟨"CaseDesk$Life", "note", "(II)V"⟩)) (cond (Nat.blt m 10) (⟨"CaseDesk$Life", "copyFrom", "(LCaseDesk$Life;)V"⟩) (⟨"CaseDesk$Plan", "<init>", "()V"⟩))) (cond (Nat.blt m 13) (cond (Nat.blt m 12) (⟨"CaseDesk$Plan", "partBit", "(II)I"⟩) (⟨"CaseDesk$Plan", "hasItem", "(I)Z"⟩)) (cond (Nat.blt m 14) (⟨"CaseDesk$Plan", "isStage", "(I)Z"⟩) (⟨"CaseDesk$Plan", "hasFlag", "(II)Z"⟩))))) (cond (Nat.blt m 22) (cond (Nat.blt m 18) (cond (Nat.blt m 16) (⟨"CaseDesk$Plan", "hasEntry", "(I)Z"⟩) (cond (Nat.blt m 17) (⟨"CaseDesk$Plan", "addItem", "(III)I"⟩) (⟨"CaseDesk$Plan", "mayHaveSentry", "(IZ)Z"⟩))) (cond (Nat.blt m 20) (cond (Nat.blt m 19) (⟨"CaseDesk$Plan", "addSentry", "(IZ)I"⟩) (⟨"CaseDesk$Plan", "hasSentry", "(I)Z"⟩)) (cond (Nat.blt m 21) (⟨"CaseDesk$Plan", "hasAllParts", "(I)Z"⟩) (⟨"CaseDesk$Plan", "mayHear", "(III)Z"⟩)))) (cond (Nat.blt m 26) (cond (Nat.blt m 24) (cond (Nat.blt m 23) (⟨"CaseDesk$Plan", "addPart", "(III)I"⟩) (⟨"CaseDesk$Plan", "putIfPart", "(IIII)V"⟩)) (cond (Nat.blt m 25) (⟨"CaseDesk$Plan", "partsHearing", "(II)I"⟩) (⟨"CaseDesk$Plan", "isSatisfied", "(II[I)Z"⟩))) (cond (Nat.blt m 28) (cond (Nat.blt m 27) (⟨"CaseDesk$Plan", "ifPartHolds", "(I[I)Z"⟩) (⟨"CaseDesk", "<init>", "()V"⟩)) (cond (Nat.blt m 29) (⟨"CaseDesk", "item", "(III)I"⟩) (⟨"CaseDesk", "sentry", "(IZ)I"⟩)))))) (cond (Nat.blt m 45) (cond (Nat.blt m 37) (cond (Nat.blt m 33) (cond (Nat.blt m 31) (⟨"CaseDesk", "on", "(III)I"⟩) (cond (Nat.blt m 32) (⟨"CaseDesk", "when", "(IIII)V"⟩) (⟨"CaseDesk", "begin", "(I)I"⟩))) (cond (Nat.blt m 35) (cond (Nat.blt m 34) (⟨"CaseDesk", "move", "(II)I"⟩) (⟨"CaseDesk", "set", "(II)I"⟩)) (cond (Nat.blt m 36) (⟨"CaseDesk", "value", "(I)I"⟩) (⟨"CaseDesk", "instances", "()I"⟩)))) (cond (Nat.blt m 41) (cond (Nat.blt m 39) (cond (Nat.blt m 38) (⟨"CaseDesk", "instance", "(II)I"⟩) (⟨"CaseDesk", "marked", "(III)Z"⟩)) (cond (Nat.blt m 40) (⟨"CaseDesk", "can", "(II)Z"⟩) (⟨"CaseDesk", "moves", "()I"⟩))) (cond (Nat.blt m 43) (cond (Nat.blt m 42) (⟨"CaseDesk", "history", "(II)I"⟩) (⟨"CaseDesk", "isVariable", "(I)Z"⟩)) (cond (Nat.blt m 44) (⟨"CaseDesk", "isCommandMove", "(I)Z"⟩) (⟨"CaseDesk", "mayBeMoved", "(II)Z"⟩))))) (cond (Nat.blt m 52) (cond (Nat.blt m 48) (cond (Nat.blt m 46) (⟨"CaseDesk", "stateAndKindFit", "(II)Z"⟩) (cond (Nat.blt m 47) (⟨"CaseDesk", "parentLets", "(I)Z"⟩) (⟨"CaseDesk", "openCommand", "()V"⟩))) (cond (Nat.blt m 50) (cond (Nat.blt m 49) (⟨"CaseDesk", "workOff", "()I"⟩) (⟨"CaseDesk", "lowestToExit", "()I"⟩)) (cond (Nat.blt m 51) (⟨"CaseDesk", "lowestToEnter", "()I"⟩) (⟨"CaseDesk", "lowestToComplete", "()I"⟩)))) (cond (Nat.blt m 56) (cond (Nat.blt m 54) (cond (Nat.blt m 53) (⟨"CaseDesk", "letIn", "(I)V"⟩) (⟨"CaseDesk", "hasSatisfied", "(IZ)Z"⟩)) (cond (Nat.blt m 55) (⟨"CaseDesk", "isSettled", "(I)Z"⟩) (⟨"CaseDesk", "isDone", "(I)Z"⟩))) (cond (Nat.blt m 58) (cond (Nat.blt m 57) (⟨"CaseDesk", "hasWaitingChild", "(I)Z"⟩) (⟨"CaseDesk", "create", "(III)V"⟩)) (cond (Nat.blt m 59) (⟨"CaseDesk", "make", "(III)V"⟩) (⟨"CaseDesk", "markSiblings", "(II)V"⟩))))))) (cond (Nat.blt m 90) (cond (Nat.blt m 75) (cond (Nat.blt m 67) (cond (Nat.blt m 63) (cond (Nat.blt m 61) (⟨"CaseDesk", "markAll", "(I)V"⟩) (cond (Nat.blt m 62) (⟨"CaseDesk", "mark", "(II)V"⟩) (⟨"CaseDesk", "moveWhatIsIn", "(III)V"⟩))) (cond (Nat.blt m 65) (cond (Nat.blt m 64) (⟨"CaseDesk", "createWhatIsIn", "(II)V"⟩) (⟨"CaseDesk", "exitChildren", "(II)V"⟩)) (cond (Nat.blt m 66) (⟨"CaseDesk", "moveChildren", "(IIII)V"⟩) (⟨"CaseDesk", "repeat", "(II)V"⟩)))) (cond (Nat.blt m 71) (cond (Nat.blt m 69) (cond (Nat.blt m 68) (⟨"CaseDeskModel", "<init>", "()V"⟩) (⟨"CaseDeskModel", "thrown", "()I"⟩)) (cond (Nat.blt m 70) (⟨"CaseDeskModel", "fail", "(I)I"⟩) (⟨"CaseDeskModel", "within", "(II)Z"⟩))) (cond (Nat.blt m 73) (cond (Nat.blt m 72) (⟨"CaseDeskModel", "item", "(III)I"⟩) (⟨"CaseDeskModel", "sentry", "(IZ)I"⟩)) (cond (Nat.blt m 74) (⟨"CaseDeskModel", "isSentry", "(I)Z"⟩) (⟨"CaseDeskModel", "on", "(III)I"⟩))))) (cond (Nat.blt m 82) (cond (Nat.blt m 78) (cond (Nat.blt m 76) (⟨"CaseDeskModel", "when", "(IIII)V"⟩) (cond (Nat.blt m 77) (⟨"CaseDeskModel", "isFinal", "(I)Z"⟩) (⟨"CaseDeskModel", "kindOf", "(I)I"⟩))) (cond (Nat.blt m 80) (cond (Nat.blt m 79) (⟨"CaseDeskModel", "hasFlag", "(II)Z"⟩) (⟨"CaseDeskModel", "hasEntry", "(I)Z"⟩)) (cond (Nat.blt m 81) (⟨"CaseDeskModel", "parentActive", "(I)Z"⟩) (⟨"CaseDeskModel", "book", "(II)Z"⟩)))) (cond (Nat.blt m 86) (cond (Nat.blt m 84) (cond (Nat.blt m 83) (⟨"CaseDeskModel", "mark", "(II)V"⟩) (⟨"CaseDeskModel", "create", "(II)V"⟩)) (cond (Nat.blt m 85) (⟨"CaseDeskModel", "target", "(I)I"⟩) (⟨"CaseDeskModel", "enter", "(II)V"⟩))) (cond (Nat.blt m 88) (cond (Nat.blt m 87) (⟨"CaseDeskModel", "again", "(II)V"⟩) (⟨"CaseDeskModel", "follows", "(II)Z"⟩)) (cond (Nat.blt m 89) (⟨"CaseDeskModel", "make", "(II)V"⟩) (⟨"CaseDeskModel", "satisfied", "(II)Z"⟩)))))) (cond (Nat.blt m 105) (cond (Nat.blt m 97) (cond (Nat.blt m 93) (cond (Nat.blt m 91) (⟨"CaseDeskModel", "someSatisfied", "(IZ)Z"⟩) (cond (Nat.blt m 92) (⟨"CaseDeskModel", "settled", "(I)Z"⟩) (⟨"CaseDeskModel", "done", "(I)Z"⟩))) (cond (Nat.blt m 95) (cond (Nat.blt m 94) (⟨"CaseDeskModel", "toExit", "()I"⟩) (⟨"CaseDeskModel", "toLetIn", "()I"⟩)) (cond (Nat.blt m 96) (⟨"CaseDeskModel", "toComplete", "()I"⟩) (⟨"CaseDeskModel", "letIn", "(I)V"⟩)))) (cond (Nat.blt m 101) (cond (Nat.blt m 99) (cond (Nat.blt m 98) (⟨"CaseDeskModel", "workOff", "()V"⟩) (⟨"CaseDeskModel", "keep", "()V"⟩)) (cond (Nat.blt m 100) (⟨"CaseDeskModel", "putBack", "()V"⟩) (⟨"CaseDeskModel", "finish", "(I)I"⟩))) (cond (Nat.blt m 103) (cond (Nat.blt m 102) (⟨"CaseDeskModel", "begin", "(I)I"⟩) (⟨"CaseDeskModel", "allowed", "(II)Z"⟩)) (cond (Nat.blt m 104) (⟨"CaseDeskModel", "refusal", "(II)I"⟩) (⟨"CaseDeskModel", "move", "(II)I"⟩))))) (cond (Nat.blt m 113) (cond (Nat.blt m 109) (cond (Nat.blt m 107) (cond (Nat.blt m 106) (⟨"CaseDeskModel", "can", "(II)Z"⟩) (⟨"CaseDeskModel", "markVariable", "(I)V"⟩)) (cond (Nat.blt m 108) (⟨"CaseDeskModel", "set", "(II)I"⟩) (⟨"CaseDeskModel", "value", "(I)I"⟩))) (cond (Nat.blt m 111) (cond (Nat.blt m 110) (⟨"CaseDeskModel", "instances", "()I"⟩) (⟨"CaseDeskModel", "instance", "(II)I"⟩)) (cond (Nat.blt m 112) (⟨"CaseDeskModel", "marked", "(III)Z"⟩) (⟨"CaseDeskModel", "moves", "()I"⟩)))) (cond (Nat.blt m 117) (cond (Nat.blt m 115) (cond (Nat.blt m 114) (⟨"CaseDeskModel", "history", "(II)I"⟩) (⟨"CaseDeskLaw", "item", "(LCaseDesk;III[J)I"⟩)) (cond (Nat.blt m 116) (⟨"CaseDeskLaw", "sentry", "(LCaseDesk;IZ[J)I"⟩) (⟨"CaseDeskLaw", "on", "(LCaseDesk;III[J)I"⟩))) (cond (Nat.blt m 119) (cond (Nat.blt m 118) (⟨"CaseDeskLaw", "when", "(LCaseDesk;IIII)I"⟩) (⟨"CaseDeskLaw", "begin", "(LCaseDesk;I[J)I"⟩)) (cond (Nat.blt m 120) (⟨"CaseDeskLaw", "move", "(LCaseDesk;II[J)I"⟩) (⟨"CaseDeskLaw", "set", "(LCaseDesk;II[J)I"⟩)))))))
def xbt : Nat → ByteArray := fun m => cond (Nat.blt m 60) (cond (Nat.blt m 30) (cond (Nat.blt m 15) (cond (Nat.blt m 7) (cond (Nat.blt m 3) (cond (Nat.blt m 1) (code) (cond (Nat.blt m 2) (prog_9_method_50_code) (prog_2_method_1_code))) (cond (Nat.blt m 5) (cond (Nat.blt m 4) (prog_2_method_2_code) (prog_2_method_3_code)) (cond (Nat.blt m 6) (prog_2_method_4_code) (prog_2_method_5_code)))) (cond (Nat.blt m 11) (cond (Nat.blt m 9) (cond (Nat.blt m 8) (prog_2_method_6_code) (prog_2_method_7_code)) (cond (Nat.blt m 10) (prog_2_method_8_code) (prog_3_method_1_code))) (cond (Nat.blt m 13) (cond (Nat.blt m 12) (prog_3_method_2_code) (prog_3_method_3_code)) (cond (Nat.blt m 14) (prog_3_method_4_code) (prog_3_method_5_code))))) (cond (Nat.blt m 22) (cond (Nat.blt m 18) (cond (Nat.blt m 16) (prog_3_method_6_code) (cond (Nat.blt m 17) (prog_3_method_7_code) (prog_3_method_8_code))) (cond (Nat.blt m 20) (cond (Nat.blt m 19) (prog_3_method_9_code) (prog_3_method_10_code)) (cond (Nat.blt m 21) (prog_3_method_11_code) (prog_3_method_12_code)))) (cond (Nat.blt m 26) (cond (Nat.blt m 24) (cond (Nat.blt m 23) (prog_3_method_13_code) (prog_3_method_14_code)) (cond (Nat.blt m 25) (prog_3_method_15_code) (prog_3_method_16_code))) (cond (Nat.blt m 28) (cond (Nat.blt m 27) (prog_3_method_17_code) (prog_1_method_1_code)) (cond (Nat.blt m 29) (prog_1_method_2_code) (prog_1_method_3_code)))))) (cond (Nat.blt m 45) (cond (Nat.blt m 37) (cond (Nat.blt m 33) (cond (Nat.blt m 31) (prog_1_method_4_code) (cond (Nat.blt m 32) (prog_1_method_5_code) (prog_1_method_6_code))) (cond (Nat.blt m 35) (cond (Nat.blt m 34) (prog_1_method_7_code) (prog_1_method_8_code)) (cond (Nat.blt m 36) (prog_1_method_9_code) (prog_1_method_10_code)))) (cond (Nat.blt m 41) (cond (Nat.blt m 39) (cond (Nat.blt m 38) (prog_1_method_11_code) (prog_1_method_12_code)) (cond (Nat.blt m 40) (prog_1_method_13_code) (prog_1_method_14_code))) (cond (Nat.blt m 43) (cond (Nat.blt m 42) (prog_1_method_15_code) (prog_1_method_16_code)) (cond (Nat.blt m 44) (prog_1_method_17_code) (prog_1_method_18_code))))) (cond (Nat.blt m 52) (cond (Nat.blt m 48) (cond (Nat.blt m 46) (prog_1_method_19_code) (cond (Nat.blt m 47) (prog_1_method_20_code) (prog_1_method_21_code))) (cond (Nat.blt m 50) (cond (Nat.blt m 49) (prog_1_method_22_code) (prog_1_method_23_code)) (cond (Nat.blt m 51) (prog_1_method_24_code) (prog_1_method_25_code)))) (cond (Nat.blt m 56) (cond (Nat.blt m 54) (cond (Nat.blt m 53) (prog_1_method_26_code) (prog_1_method_27_code)) (cond (Nat.blt m 55) (prog_1_method_28_code) (prog_1_method_29_code))) (cond (Nat.blt m 58) (cond (Nat.blt m 57) (prog_1_method_30_code) (prog_1_method_31_code)) (cond (Nat.blt m 59) (prog_1_method_32_code) (prog_1_method_33_code))))))) (cond (Nat.blt m 90) (cond (Nat.blt m 75) (cond (Nat.blt m 67) (cond (Nat.blt m 63) (cond (Nat.blt m 61) (prog_1_method_34_code) (cond (Nat.blt m 62) (prog_1_method_35_code) (prog_1_method_36_code))) (cond (Nat.blt m 65) (cond (Nat.blt m 64) (prog_1_method_37_code) (prog_1_method_38_code)) (cond (Nat.blt m 66) (prog_1_method_39_code) (prog_1_method_40_code)))) (cond (Nat.blt m 71) (cond (Nat.blt m 69) (cond (Nat.blt m 68) (prog_5_method_1_code) (prog_5_method_2_code)) (cond (Nat.blt m 70) (prog_5_method_3_code) (prog_5_method_4_code))) (cond (Nat.blt m 73) (cond (Nat.blt m 72) (prog_5_method_5_code) (prog_5_method_6_code)) (cond (Nat.blt m 74) (prog_5_method_7_code) (prog_5_method_8_code))))) (cond (Nat.blt m 82) (cond (Nat.blt m 78) (cond (Nat.blt m 76) (prog_5_method_9_code) (cond (Nat.blt m 77) (prog_5_method_10_code) (prog_5_method_11_code))) (cond (Nat.blt m 80) (cond (Nat.blt m 79) (prog_5_method_12_code) (prog_5_method_13_code)) (cond (Nat.blt m 81) (prog_5_method_14_code) (prog_5_method_15_code)))) (cond (Nat.blt m 86) (cond (Nat.blt m 84) (cond (Nat.blt m 83) (prog_5_method_16_code) (prog_5_method_17_code)) (cond (Nat.blt m 85) (prog_5_method_18_code) (prog_5_method_19_code))) (cond (Nat.blt m 88) (cond (Nat.blt m 87) (prog_5_method_20_code) (prog_5_method_21_code)) (cond (Nat.blt m 89) (prog_5_method_22_code) (prog_5_method_23_code)))))) (cond (Nat.blt m 105) (cond (Nat.blt m 97) (cond (Nat.blt m 93) (cond (Nat.blt m 91) (prog_5_method_24_code) (cond (Nat.blt m 92) (prog_5_method_25_code) (prog_5_method_26_code))) (cond (Nat.blt m 95) (cond (Nat.blt m 94) (prog_5_method_27_code) (prog_5_method_28_code)) (cond (Nat.blt m 96) (prog_5_method_29_code) (prog_5_method_30_code)))) (cond (Nat.blt m 101) (cond (Nat.blt m 99) (cond (Nat.blt m 98) (prog_5_method_31_code) (prog_5_method_32_code)) (cond (Nat.blt m 100) (prog_5_method_33_code) (prog_5_method_34_code))) (cond (Nat.blt m 103) (cond (Nat.blt m 102) (prog_5_method_35_code) (prog_5_method_36_code)) (cond (Nat.blt m 104) (prog_5_method_37_code) (prog_5_method_38_code))))) (cond (Nat.blt m 113) (cond (Nat.blt m 109) (cond (Nat.blt m 107) (cond (Nat.blt m 106) (prog_5_method_39_code) (prog_5_method_40_code)) (cond (Nat.blt m 108) (prog_5_method_41_code) (prog_5_method_42_code))) (cond (Nat.blt m 111) (cond (Nat.blt m 110) (prog_5_method_43_code) (prog_5_method_44_code)) (cond (Nat.blt m 112) (prog_5_method_45_code) (prog_5_method_46_code)))) (cond (Nat.blt m 117) (cond (Nat.blt m 115) (cond (Nat.blt m 114) (prog_5_method_47_code) (method_3_code)) (cond (Nat.blt m 116) (method_4_code) (method_5_code))) (cond (Nat.blt m 119) (cond (Nat.blt m 118) (method_6_code) (method_7_code)) (cond (Nat.blt m 120) (method_8_code) (method_9_code)))))))
def xmx : Nat → Nat := fun m => cond (Nat.blt m 60) (cond (Nat.blt m 30) (cond (Nat.blt m 15) (cond (Nat.blt m 7) (cond (Nat.blt m 3) (cond (Nat.blt m 1) (7) (cond (Nat.blt m 2) (3) (1))) (cond (Nat.blt m 5) (cond (Nat.blt m 4) (1) (2)) (cond (Nat.blt m 6) (2) (2)))) (cond (Nat.blt m 11) (cond (Nat.blt m 9) (cond (Nat.blt m 8) (3) (4)) (cond (Nat.blt m 10) (2) (1))) (cond (Nat.blt m 13) (cond (Nat.blt m 12) (2) (2)) (cond (Nat.blt m 14) (2) (3))))) (cond (Nat.blt m 22) (cond (Nat.blt m 18) (cond (Nat.blt m 16) (3) (cond (Nat.blt m 17) (4) (3))) (cond (Nat.blt m 20) (cond (Nat.blt m 19) (5) (2)) (cond (Nat.blt m 21) (2) (4)))) (cond (Nat.blt m 26) (cond (Nat.blt m 24) (cond (Nat.blt m 23) (5) (5)) (cond (Nat.blt m 25) (7) (5))) (cond (Nat.blt m 28) (cond (Nat.blt m 27) (4) (1)) (cond (Nat.blt m 29) (5) (3)))))) (cond (Nat.blt m 45) (cond (Nat.blt m 37) (cond (Nat.blt m 33) (cond (Nat.blt m 31) (4) (cond (Nat.blt m 32) (5) (2))) (cond (Nat.blt m 35) (cond (Nat.blt m 34) (3) (3)) (cond (Nat.blt m 36) (2) (1)))) (cond (Nat.blt m 41) (cond (Nat.blt m 39) (cond (Nat.blt m 38) (3) (4)) (cond (Nat.blt m 40) (3) (1))) (cond (Nat.blt m 43) (cond (Nat.blt m 42) (4) (1)) (cond (Nat.blt m 44) (1) (3))))) (cond (Nat.blt m 52) (cond (Nat.blt m 48) (cond (Nat.blt m 46) (5) (cond (Nat.blt m 47) (3) (1))) (cond (Nat.blt m 50) (cond (Nat.blt m 49) (5) (2)) (cond (Nat.blt m 51) (3) (2)))) (cond (Nat.blt m 56) (cond (Nat.blt m 54) (cond (Nat.blt m 53) (3) (4)) (cond (Nat.blt m 55) (3) (2))) (cond (Nat.blt m 58) (cond (Nat.blt m 57) (3) (4)) (cond (Nat.blt m 59) (4) (4))))))) (cond (Nat.blt m 90) (cond (Nat.blt m 75) (cond (Nat.blt m 67) (cond (Nat.blt m 63) (cond (Nat.blt m 61) (3) (cond (Nat.blt m 62) (3) (4))) (cond (Nat.blt m 65) (cond (Nat.blt m 64) (4) (5)) (cond (Nat.blt m 66) (7) (4)))) (cond (Nat.blt m 71) (cond (Nat.blt m 69) (cond (Nat.blt m 68) (1) (1)) (cond (Nat.blt m 70) (2) (2))) (cond (Nat.blt m 73) (cond (Nat.blt m 72) (4) (3)) (cond (Nat.blt m 74) (2) (6))))) (cond (Nat.blt m 82) (cond (Nat.blt m 78) (cond (Nat.blt m 76) (5) (cond (Nat.blt m 77) (2) (2))) (cond (Nat.blt m 80) (cond (Nat.blt m 79) (3) (4)) (cond (Nat.blt m 81) (2) (3)))) (cond (Nat.blt m 86) (cond (Nat.blt m 84) (cond (Nat.blt m 83) (7) (4)) (cond (Nat.blt m 85) (1) (5))) (cond (Nat.blt m 88) (cond (Nat.blt m 87) (3) (3)) (cond (Nat.blt m 89) (6) (5)))))) (cond (Nat.blt m 105) (cond (Nat.blt m 97) (cond (Nat.blt m 93) (cond (Nat.blt m 91) (5) (cond (Nat.blt m 92) (5) (4))) (cond (Nat.blt m 95) (cond (Nat.blt m 94) (2) (2)) (cond (Nat.blt m 96) (2) (2)))) (cond (Nat.blt m 101) (cond (Nat.blt m 99) (cond (Nat.blt m 98) (3) (2)) (cond (Nat.blt m 100) (2) (2))) (cond (Nat.blt m 103) (cond (Nat.blt m 102) (3) (5)) (cond (Nat.blt m 104) (3) (3))))) (cond (Nat.blt m 113) (cond (Nat.blt m 109) (cond (Nat.blt m 107) (cond (Nat.blt m 106) (3) (5)) (cond (Nat.blt m 108) (3) (2))) (cond (Nat.blt m 111) (cond (Nat.blt m 110) (1) (3)) (cond (Nat.blt m 112) (4) (1)))) (cond (Nat.blt m 117) (cond (Nat.blt m 115) (cond (Nat.blt m 114) (4) (6)) (cond (Nat.blt m 116) (5) (6))) (cond (Nat.blt m 119) (cond (Nat.blt m 118) (6) (4)) (cond (Nat.blt m 120) (5) (5)))))))
def xrt : Nat → Option FieldType := fun m => cond (Nat.blt m 60) (cond (Nat.blt m 30) (cond (Nat.blt m 15) (cond (Nat.blt m 7) (cond (Nat.blt m 3) (cond (Nat.blt m 1) ((some .boolean)) (cond (Nat.blt m 2) ((some .int)) (none))) (cond (Nat.blt m 5) (cond (Nat.blt m 4) ((some .boolean)) ((some .boolean))) (cond (Nat.blt m 6) ((some .boolean)) ((some .boolean))))) (cond (Nat.blt m 11) (cond (Nat.blt m 9) (cond (Nat.blt m 8) ((some .int)) (none)) (cond (Nat.blt m 10) (none) (none))) (cond (Nat.blt m 13) (cond (Nat.blt m 12) ((some .int)) ((some .boolean))) (cond (Nat.blt m 14) ((some .boolean)) ((some .boolean)))))) (cond (Nat.blt m 22) (cond (Nat.blt m 18) (cond (Nat.blt m 16) ((some .boolean)) (cond (Nat.blt m 17) ((some .int)) ((some .boolean)))) (cond (Nat.blt m 20) (cond (Nat.blt m 19) ((some .int)) ((some .boolean))) (cond (Nat.blt m 21) ((some .boolean)) ((some .boolean))))) (cond (Nat.blt m 26) (cond (Nat.blt m 24) (cond (Nat.blt m 23) ((some .int)) (none)) (cond (Nat.blt m 25) ((some .int)) ((some .boolean)))) (cond (Nat.blt m 28) (cond (Nat.blt m 27) ((some .boolean)) (none)) (cond (Nat.blt m 29) ((some .int)) ((some .int))))))) (cond (Nat.blt m 45) (cond (Nat.blt m 37) (cond (Nat.blt m 33) (cond (Nat.blt m 31) ((some .int)) (cond (Nat.blt m 32) (none) ((some .int)))) (cond (Nat.blt m 35) (cond (Nat.blt m 34) ((some .int)) ((some .int))) (cond (Nat.blt m 36) ((some .int)) ((some .int))))) (cond (Nat.blt m 41) (cond (Nat.blt m 39) (cond (Nat.blt m 38) ((some .int)) ((some .boolean))) (cond (Nat.blt m 40) ((some .boolean)) ((some .int)))) (cond (Nat.blt m 43) (cond (Nat.blt m 42) ((some .int)) ((some .boolean))) (cond (Nat.blt m 44) ((some .boolean)) ((some .boolean)))))) (cond (Nat.blt m 52) (cond (Nat.blt m 48) (cond (Nat.blt m 46) ((some .boolean)) (cond (Nat.blt m 47) ((some .boolean)) (none))) (cond (Nat.blt m 50) (cond (Nat.blt m 49) ((some .int)) ((some .int))) (cond (Nat.blt m 51) ((some .int)) ((some .int))))) (cond (Nat.blt m 56) (cond (Nat.blt m 54) (cond (Nat.blt m 53) (none) ((some .boolean))) (cond (Nat.blt m 55) ((some .boolean)) ((some .boolean)))) (cond (Nat.blt m 58) (cond (Nat.blt m 57) ((some .boolean)) (none)) (cond (Nat.blt m 59) (none) (none))))))) (cond (Nat.blt m 90) (cond (Nat.blt m 75) (cond (Nat.blt m 67) (cond (Nat.blt m 63) (cond (Nat.blt m 61) (none) (cond (Nat.blt m 62) (none) (none))) (cond (Nat.blt m 65) (cond (Nat.blt m 64) (none) (none)) (cond (Nat.blt m 66) (none) (none)))) (cond (Nat.blt m 71) (cond (Nat.blt m 69) (cond (Nat.blt m 68) (none) ((some .int))) (cond (Nat.blt m 70) ((some .int)) ((some .boolean)))) (cond (Nat.blt m 73) (cond (Nat.blt m 72) ((some .int)) ((some .int))) (cond (Nat.blt m 74) ((some .boolean)) ((some .int)))))) (cond (Nat.blt m 82) (cond (Nat.blt m 78) (cond (Nat.blt m 76) (none) (cond (Nat.blt m 77) ((some .boolean)) ((some .int)))) (cond (Nat.blt m 80) (cond (Nat.blt m 79) ((some .boolean)) ((some .boolean))) (cond (Nat.blt m 81) ((some .boolean)) ((some .boolean))))) (cond (Nat.blt m 86) (cond (Nat.blt m 84) (cond (Nat.blt m 83) (none) (none)) (cond (Nat.blt m 85) ((some .int)) (none))) (cond (Nat.blt m 88) (cond (Nat.blt m 87) (none) ((some .boolean))) (cond (Nat.blt m 89) (none) ((some .boolean))))))) (cond (Nat.blt m 105) (cond (Nat.blt m 97) (cond (Nat.blt m 93) (cond (Nat.blt m 91) ((some .boolean)) (cond (Nat.blt m 92) ((some .boolean)) ((some .boolean)))) (cond (Nat.blt m 95) (cond (Nat.blt m 94) ((some .int)) ((some .int))) (cond (Nat.blt m 96) ((some .int)) (none)))) (cond (Nat.blt m 101) (cond (Nat.blt m 99) (cond (Nat.blt m 98) (none) (none)) (cond (Nat.blt m 100) (none) ((some .int)))) (cond (Nat.blt m 103) (cond (Nat.blt m 102) ((some .int)) ((some .boolean))) (cond (Nat.blt m 104) ((some .int)) ((some .int)))))) (cond (Nat.blt m 113) (cond (Nat.blt m 109) (cond (Nat.blt m 107) (cond (Nat.blt m 106) ((some .boolean)) (none)) (cond (Nat.blt m 108) ((some .int)) ((some .int)))) (cond (Nat.blt m 111) (cond (Nat.blt m 110) ((some .int)) ((some .int))) (cond (Nat.blt m 112) ((some .boolean)) ((some .int))))) (cond (Nat.blt m 117) (cond (Nat.blt m 115) (cond (Nat.blt m 114) ((some .int)) ((some .int))) (cond (Nat.blt m 116) ((some .int)) ((some .int)))) (cond (Nat.blt m 119) (cond (Nat.blt m 118) ((some .int)) ((some .int))) (cond (Nat.blt m 120) ((some .int)) ((some .int))))))))
def xhh : Nat → List (Nat × Nat × Nat × Nat) := fun m => cond (Nat.blt m 114) [] (cond (Nat.blt m 121) (cond (Nat.blt m 117) (cond (Nat.blt m 115) ([(0, 12, 15, 13), (0, 12, 19, 15)]) (cond (Nat.blt m 116) ([(0, 10, 13, 13), (0, 10, 17, 15)]) ([(0, 12, 15, 13), (0, 12, 19, 15)]))) (cond (Nat.blt m 119) (cond (Nat.blt m 118) ([(0, 9, 12, 13), (0, 9, 16, 15)]) ([(0, 9, 12, 13), (0, 9, 15, 15), (0, 9, 18, 32)])) (cond (Nat.blt m 120) ([(0, 10, 13, 38), (0, 10, 17, 15), (0, 10, 21, 13), (0, 10, 25, 32)]) ([(0, 10, 13, 15), (0, 10, 17, 32)])))) [])
def xow : Nat → Nat := fun m => cond (Nat.blt m 121) (cond (Nat.blt m 60) (cond (Nat.blt m 30) (cond (Nat.blt m 15) (cond (Nat.blt m 7) (cond (Nat.blt m 3) (cond (Nat.blt m 1) (0) (cond (Nat.blt m 2) (1) (2))) (cond (Nat.blt m 5) (cond (Nat.blt m 4) (2) (2)) (cond (Nat.blt m 6) (2) (2)))) (cond (Nat.blt m 11) (cond (Nat.blt m 9) (cond (Nat.blt m 8) (2) (2)) (cond (Nat.blt m 10) (2) (3))) (cond (Nat.blt m 13) (cond (Nat.blt m 12) (3) (3)) (cond (Nat.blt m 14) (3) (3))))) (cond (Nat.blt m 22) (cond (Nat.blt m 18) (cond (Nat.blt m 16) (3) (cond (Nat.blt m 17) (3) (3))) (cond (Nat.blt m 20) (cond (Nat.blt m 19) (3) (3)) (cond (Nat.blt m 21) (3) (3)))) (cond (Nat.blt m 26) (cond (Nat.blt m 24) (cond (Nat.blt m 23) (3) (3)) (cond (Nat.blt m 25) (3) (3))) (cond (Nat.blt m 28) (cond (Nat.blt m 27) (3) (4)) (cond (Nat.blt m 29) (4) (4)))))) (cond (Nat.blt m 45) (cond (Nat.blt m 37) (cond (Nat.blt m 33) (cond (Nat.blt m 31) (4) (cond (Nat.blt m 32) (4) (4))) (cond (Nat.blt m 35) (cond (Nat.blt m 34) (4) (4)) (cond (Nat.blt m 36) (4) (4)))) (cond (Nat.blt m 41) (cond (Nat.blt m 39) (cond (Nat.blt m 38) (4) (4)) (cond (Nat.blt m 40) (4) (4))) (cond (Nat.blt m 43) (cond (Nat.blt m 42) (4) (4)) (cond (Nat.blt m 44) (4) (4))))) (cond (Nat.blt m 52) (cond (Nat.blt m 48) (cond (Nat.blt m 46) (4) (cond (Nat.blt m 47) (4) (4))) (cond (Nat.blt m 50) (cond (Nat.blt m 49) (4) (4)) (cond (Nat.blt m 51) (4) (4)))) (cond (Nat.blt m 56) (cond (Nat.blt m 54) (cond (Nat.blt m 53) (4) (4)) (cond (Nat.blt m 55) (4) (4))) (cond (Nat.blt m 58) (cond (Nat.blt m 57) (4) (4)) (cond (Nat.blt m 59) (4) (4))))))) (cond (Nat.blt m 90) (cond (Nat.blt m 75) (cond (Nat.blt m 67) (cond (Nat.blt m 63) (cond (Nat.blt m 61) (4) (cond (Nat.blt m 62) (4) (4))) (cond (Nat.blt m 65) (cond (Nat.blt m 64) (4) (4)) (cond (Nat.blt m 66) (4) (4)))) (cond (Nat.blt m 71) (cond (Nat.blt m 69) (cond (Nat.blt m 68) (5) (5)) (cond (Nat.blt m 70) (5) (5))) (cond (Nat.blt m 73) (cond (Nat.blt m 72) (5) (5)) (cond (Nat.blt m 74) (5) (5))))) (cond (Nat.blt m 82) (cond (Nat.blt m 78) (cond (Nat.blt m 76) (5) (cond (Nat.blt m 77) (5) (5))) (cond (Nat.blt m 80) (cond (Nat.blt m 79) (5) (5)) (cond (Nat.blt m 81) (5) (5)))) (cond (Nat.blt m 86) (cond (Nat.blt m 84) (cond (Nat.blt m 83) (5) (5)) (cond (Nat.blt m 85) (5) (5))) (cond (Nat.blt m 88) (cond (Nat.blt m 87) (5) (5)) (cond (Nat.blt m 89) (5) (5)))))) (cond (Nat.blt m 105) (cond (Nat.blt m 97) (cond (Nat.blt m 93) (cond (Nat.blt m 91) (5) (cond (Nat.blt m 92) (5) (5))) (cond (Nat.blt m 95) (cond (Nat.blt m 94) (5) (5)) (cond (Nat.blt m 96) (5) (5)))) (cond (Nat.blt m 101) (cond (Nat.blt m 99) (cond (Nat.blt m 98) (5) (5)) (cond (Nat.blt m 100) (5) (5))) (cond (Nat.blt m 103) (cond (Nat.blt m 102) (5) (5)) (cond (Nat.blt m 104) (5) (5))))) (cond (Nat.blt m 113) (cond (Nat.blt m 109) (cond (Nat.blt m 107) (cond (Nat.blt m 106) (5) (5)) (cond (Nat.blt m 108) (5) (5))) (cond (Nat.blt m 111) (cond (Nat.blt m 110) (5) (5)) (cond (Nat.blt m 112) (5) (5)))) (cond (Nat.blt m 117) (cond (Nat.blt m 115) (cond (Nat.blt m 114) (5) (0)) (cond (Nat.blt m 116) (0) (0))) (cond (Nat.blt m 119) (cond (Nat.blt m 118) (0) (0)) (cond (Nat.blt m 120) (0) (0)))))))) 9
def xin : Nat → Bool := fun m => cond (Nat.blt m 60) (cond (Nat.blt m 30) (cond (Nat.blt m 15) (cond (Nat.blt m 7) (cond (Nat.blt m 3) (cond (Nat.blt m 1) (false) (cond (Nat.blt m 2) (false) (true))) (cond (Nat.blt m 5) (cond (Nat.blt m 4) (false) (false)) (cond (Nat.blt m 6) (false) (false)))) (cond (Nat.blt m 11) (cond (Nat.blt m 9) (cond (Nat.blt m 8) (false) (false)) (cond (Nat.blt m 10) (false) (true))) (cond (Nat.blt m 13) (cond (Nat.blt m 12) (false) (false)) (cond (Nat.blt m 14) (false) (false))))) (cond (Nat.blt m 22) (cond (Nat.blt m 18) (cond (Nat.blt m 16) (false) (cond (Nat.blt m 17) (false) (false))) (cond (Nat.blt m 20) (cond (Nat.blt m 19) (false) (false)) (cond (Nat.blt m 21) (false) (false)))) (cond (Nat.blt m 26) (cond (Nat.blt m 24) (cond (Nat.blt m 23) (false) (false)) (cond (Nat.blt m 25) (false) (false))) (cond (Nat.blt m 28) (cond (Nat.blt m 27) (false) (true)) (cond (Nat.blt m 29) (false) (false)))))) (cond (Nat.blt m 45) (cond (Nat.blt m 37) (cond (Nat.blt m 33) (cond (Nat.blt m 31) (false) (cond (Nat.blt m 32) (false) (false))) (cond (Nat.blt m 35) (cond (Nat.blt m 34) (false) (false)) (cond (Nat.blt m 36) (false) (false)))) (cond (Nat.blt m 41) (cond (Nat.blt m 39) (cond (Nat.blt m 38) (false) (false)) (cond (Nat.blt m 40) (false) (false))) (cond (Nat.blt m 43) (cond (Nat.blt m 42) (false) (false)) (cond (Nat.blt m 44) (false) (false))))) (cond (Nat.blt m 52) (cond (Nat.blt m 48) (cond (Nat.blt m 46) (false) (cond (Nat.blt m 47) (false) (false))) (cond (Nat.blt m 50) (cond (Nat.blt m 49) (false) (false)) (cond (Nat.blt m 51) (false) (false)))) (cond (Nat.blt m 56) (cond (Nat.blt m 54) (cond (Nat.blt m 53) (false) (false)) (cond (Nat.blt m 55) (false) (false))) (cond (Nat.blt m 58) (cond (Nat.blt m 57) (false) (false)) (cond (Nat.blt m 59) (false) (false))))))) (cond (Nat.blt m 90) (cond (Nat.blt m 75) (cond (Nat.blt m 67) (cond (Nat.blt m 63) (cond (Nat.blt m 61) (false) (cond (Nat.blt m 62) (false) (false))) (cond (Nat.blt m 65) (cond (Nat.blt m 64) (false) (false)) (cond (Nat.blt m 66) (false) (false)))) (cond (Nat.blt m 71) (cond (Nat.blt m 69) (cond (Nat.blt m 68) (true) (false)) (cond (Nat.blt m 70) (false) (false))) (cond (Nat.blt m 73) (cond (Nat.blt m 72) (false) (false)) (cond (Nat.blt m 74) (false) (false))))) (cond (Nat.blt m 82) (cond (Nat.blt m 78) (cond (Nat.blt m 76) (false) (cond (Nat.blt m 77) (false) (false))) (cond (Nat.blt m 80) (cond (Nat.blt m 79) (false) (false)) (cond (Nat.blt m 81) (false) (false)))) (cond (Nat.blt m 86) (cond (Nat.blt m 84) (cond (Nat.blt m 83) (false) (false)) (cond (Nat.blt m 85) (false) (false))) (cond (Nat.blt m 88) (cond (Nat.blt m 87) (false) (false)) (cond (Nat.blt m 89) (false) (false)))))) (cond (Nat.blt m 105) (cond (Nat.blt m 97) (cond (Nat.blt m 93) (cond (Nat.blt m 91) (false) (cond (Nat.blt m 92) (false) (false))) (cond (Nat.blt m 95) (cond (Nat.blt m 94) (false) (false)) (cond (Nat.blt m 96) (false) (false)))) (cond (Nat.blt m 101) (cond (Nat.blt m 99) (cond (Nat.blt m 98) (false) (false)) (cond (Nat.blt m 100) (false) (false))) (cond (Nat.blt m 103) (cond (Nat.blt m 102) (false) (false)) (cond (Nat.blt m 104) (false) (false))))) (cond (Nat.blt m 113) (cond (Nat.blt m 109) (cond (Nat.blt m 107) (cond (Nat.blt m 106) (false) (false)) (cond (Nat.blt m 108) (false) (false))) (cond (Nat.blt m 111) (cond (Nat.blt m 110) (false) (false)) (cond (Nat.blt m 112) (false) (false)))) (cond (Nat.blt m 117) (cond (Nat.blt m 115) (cond (Nat.blt m 114) (false) (false)) (cond (Nat.blt m 116) (false) (false))) (cond (Nat.blt m 119) (cond (Nat.blt m 118) (false) (false)) (cond (Nat.blt m 120) (false) (false)))))))
def xcn : Nat → String := fun o => match o with
  | 0 => "CaseDeskLaw"
  | 1 => "java/lang/Math"
  | 2 => "CaseDesk$Life"
  | 3 => "CaseDesk$Plan"
  | 4 => "CaseDesk"
  | _ => "CaseDeskModel"
def xkn : Nat → Nat := fun o => match o with
  | 2 => 0
  | 3 => 1
  | 4 => 2
  | 5 => 3
  | _ => 99
def xcd : Nat → Nat → Option (Instr × Nat) := fun m pc => cond (Nat.blt m 60) (cond (Nat.blt m 30) (cond (Nat.blt m 15) (cond (Nat.blt m 7) (cond (Nat.blt m 3) (cond (Nat.blt m 1) (cond (Nat.beq m 0) (xc_0 pc) none) (cond (Nat.blt m 2) (cond (Nat.beq m 1) (xc_1 pc) none) (cond (Nat.beq m 2) (xc_2 pc) none))) (cond (Nat.blt m 5) (cond (Nat.blt m 4) (cond (Nat.beq m 3) (xc_3 pc) none) (cond (Nat.beq m 4) (xc_4 pc) none)) (cond (Nat.blt m 6) (cond (Nat.beq m 5) (xc_5 pc) none) (cond (Nat.beq m 6) (xc_6 pc) none)))) (cond (Nat.blt m 11) (cond (Nat.blt m 9) (cond (Nat.blt m 8) (cond (Nat.beq m 7) (xc_7 pc) none) (cond (Nat.beq m 8) (xc_8 pc) none)) (cond (Nat.blt m 10) (cond (Nat.beq m 9) (xc_9 pc) none) (cond (Nat.beq m 10) (xc_10 pc) none))) (cond (Nat.blt m 13) (cond (Nat.blt m 12) (cond (Nat.beq m 11) (xc_11 pc) none) (cond (Nat.beq m 12) (xc_12 pc) none)) (cond (Nat.blt m 14) (cond (Nat.beq m 13) (xc_13 pc) none) (cond (Nat.beq m 14) (xc_14 pc) none))))) (cond (Nat.blt m 22) (cond (Nat.blt m 18) (cond (Nat.blt m 16) (cond (Nat.beq m 15) (xc_15 pc) none) (cond (Nat.blt m 17) (cond (Nat.beq m 16) (xc_16 pc) none) (cond (Nat.beq m 17) (xc_17 pc) none))) (cond (Nat.blt m 20) (cond (Nat.blt m 19) (cond (Nat.beq m 18) (xc_18 pc) none) (cond (Nat.beq m 19) (xc_19 pc) none)) (cond (Nat.blt m 21) (cond (Nat.beq m 20) (xc_20 pc) none) (cond (Nat.beq m 21) (xc_21 pc) none)))) (cond (Nat.blt m 26) (cond (Nat.blt m 24) (cond (Nat.blt m 23) (cond (Nat.beq m 22) (xc_22 pc) none) (cond (Nat.beq m 23) (xc_23 pc) none)) (cond (Nat.blt m 25) (cond (Nat.beq m 24) (xc_24 pc) none) (cond (Nat.beq m 25) (xc_25 pc) none))) (cond (Nat.blt m 28) (cond (Nat.blt m 27) (cond (Nat.beq m 26) (xc_26 pc) none) (cond (Nat.beq m 27) (xc_27 pc) none)) (cond (Nat.blt m 29) (cond (Nat.beq m 28) (xc_28 pc) none) (cond (Nat.beq m 29) (xc_29 pc) none)))))) (cond (Nat.blt m 45) (cond (Nat.blt m 37) (cond (Nat.blt m 33) (cond (Nat.blt m 31) (cond (Nat.beq m 30) (xc_30 pc) none) (cond (Nat.blt m 32) (cond (Nat.beq m 31) (xc_31 pc) none) (cond (Nat.beq m 32) (xc_32 pc) none))) (cond (Nat.blt m 35) (cond (Nat.blt m 34) (cond (Nat.beq m 33) (xc_33 pc) none) (cond (Nat.beq m 34) (xc_34 pc) none)) (cond (Nat.blt m 36) (cond (Nat.beq m 35) (xc_35 pc) none) (cond (Nat.beq m 36) (xc_36 pc) none)))) (cond (Nat.blt m 41) (cond (Nat.blt m 39) (cond (Nat.blt m 38) (cond (Nat.beq m 37) (xc_37 pc) none) (cond (Nat.beq m 38) (xc_38 pc) none)) (cond (Nat.blt m 40) (cond (Nat.beq m 39) (xc_39 pc) none) (cond (Nat.beq m 40) (xc_40 pc) none))) (cond (Nat.blt m 43) (cond (Nat.blt m 42) (cond (Nat.beq m 41) (xc_41 pc) none) (cond (Nat.beq m 42) (xc_42 pc) none)) (cond (Nat.blt m 44) (cond (Nat.beq m 43) (xc_43 pc) none) (cond (Nat.beq m 44) (xc_44 pc) none))))) (cond (Nat.blt m 52) (cond (Nat.blt m 48) (cond (Nat.blt m 46) (cond (Nat.beq m 45) (xc_45 pc) none) (cond (Nat.blt m 47) (cond (Nat.beq m 46) (xc_46 pc) none) (cond (Nat.beq m 47) (xc_47 pc) none))) (cond (Nat.blt m 50) (cond (Nat.blt m 49) (cond (Nat.beq m 48) (xc_48 pc) none) (cond (Nat.beq m 49) (xc_49 pc) none)) (cond (Nat.blt m 51) (cond (Nat.beq m 50) (xc_50 pc) none) (cond (Nat.beq m 51) (xc_51 pc) none)))) (cond (Nat.blt m 56) (cond (Nat.blt m 54) (cond (Nat.blt m 53) (cond (Nat.beq m 52) (xc_52 pc) none) (cond (Nat.beq m 53) (xc_53 pc) none)) (cond (Nat.blt m 55) (cond (Nat.beq m 54) (xc_54 pc) none) (cond (Nat.beq m 55) (xc_55 pc) none))) (cond (Nat.blt m 58) (cond (Nat.blt m 57) (cond (Nat.beq m 56) (xc_56 pc) none) (cond (Nat.beq m 57) (xc_57 pc) none)) (cond (Nat.blt m 59) (cond (Nat.beq m 58) (xc_58 pc) none) (cond (Nat.beq m 59) (xc_59 pc) none))))))) (cond (Nat.blt m 90) (cond (Nat.blt m 75) (cond (Nat.blt m 67) (cond (Nat.blt m 63) (cond (Nat.blt m 61) (cond (Nat.beq m 60) (xc_60 pc) none) (cond (Nat.blt m 62) (cond (Nat.beq m 61) (xc_61 pc) none) (cond (Nat.beq m 62) (xc_62 pc) none))) (cond (Nat.blt m 65) (cond (Nat.blt m 64) (cond (Nat.beq m 63) (xc_63 pc) none) (cond (Nat.beq m 64) (xc_64 pc) none)) (cond (Nat.blt m 66) (cond (Nat.beq m 65) (xc_65 pc) none) (cond (Nat.beq m 66) (xc_66 pc) none)))) (cond (Nat.blt m 71) (cond (Nat.blt m 69) (cond (Nat.blt m 68) (cond (Nat.beq m 67) (xc_67 pc) none) (cond (Nat.beq m 68) (xc_68 pc) none)) (cond (Nat.blt m 70) (cond (Nat.beq m 69) (xc_69 pc) none) (cond (Nat.beq m 70) (xc_70 pc) none))) (cond (Nat.blt m 73) (cond (Nat.blt m 72) (cond (Nat.beq m 71) (xc_71 pc) none) (cond (Nat.beq m 72) (xc_72 pc) none)) (cond (Nat.blt m 74) (cond (Nat.beq m 73) (xc_73 pc) none) (cond (Nat.beq m 74) (xc_74 pc) none))))) (cond (Nat.blt m 82) (cond (Nat.blt m 78) (cond (Nat.blt m 76) (cond (Nat.beq m 75) (xc_75 pc) none) (cond (Nat.blt m 77) (cond (Nat.beq m 76) (xc_76 pc) none) (cond (Nat.beq m 77) (xc_77 pc) none))) (cond (Nat.blt m 80) (cond (Nat.blt m 79) (cond (Nat.beq m 78) (xc_78 pc) none) (cond (Nat.beq m 79) (xc_79 pc) none)) (cond (Nat.blt m 81) (cond (Nat.beq m 80) (xc_80 pc) none) (cond (Nat.beq m 81) (xc_81 pc) none)))) (cond (Nat.blt m 86) (cond (Nat.blt m 84) (cond (Nat.blt m 83) (cond (Nat.beq m 82) (xc_82 pc) none) (cond (Nat.beq m 83) (xc_83 pc) none)) (cond (Nat.blt m 85) (cond (Nat.beq m 84) (xc_84 pc) none) (cond (Nat.beq m 85) (xc_85 pc) none))) (cond (Nat.blt m 88) (cond (Nat.blt m 87) (cond (Nat.beq m 86) (xc_86 pc) none) (cond (Nat.beq m 87) (xc_87 pc) none)) (cond (Nat.blt m 89) (cond (Nat.beq m 88) (xc_88 pc) none) (cond (Nat.beq m 89) (xc_89 pc) none)))))) (cond (Nat.blt m 105) (cond (Nat.blt m 97) (cond (Nat.blt m 93) (cond (Nat.blt m 91) (cond (Nat.beq m 90) (xc_90 pc) none) (cond (Nat.blt m 92) (cond (Nat.beq m 91) (xc_91 pc) none) (cond (Nat.beq m 92) (xc_92 pc) none))) (cond (Nat.blt m 95) (cond (Nat.blt m 94) (cond (Nat.beq m 93) (xc_93 pc) none) (cond (Nat.beq m 94) (xc_94 pc) none)) (cond (Nat.blt m 96) (cond (Nat.beq m 95) (xc_95 pc) none) (cond (Nat.beq m 96) (xc_96 pc) none)))) (cond (Nat.blt m 101) (cond (Nat.blt m 99) (cond (Nat.blt m 98) (cond (Nat.beq m 97) (xc_97 pc) none) (cond (Nat.beq m 98) (xc_98 pc) none)) (cond (Nat.blt m 100) (cond (Nat.beq m 99) (xc_99 pc) none) (cond (Nat.beq m 100) (xc_100 pc) none))) (cond (Nat.blt m 103) (cond (Nat.blt m 102) (cond (Nat.beq m 101) (xc_101 pc) none) (cond (Nat.beq m 102) (xc_102 pc) none)) (cond (Nat.blt m 104) (cond (Nat.beq m 103) (xc_103 pc) none) (cond (Nat.beq m 104) (xc_104 pc) none))))) (cond (Nat.blt m 113) (cond (Nat.blt m 109) (cond (Nat.blt m 107) (cond (Nat.blt m 106) (cond (Nat.beq m 105) (xc_105 pc) none) (cond (Nat.beq m 106) (xc_106 pc) none)) (cond (Nat.blt m 108) (cond (Nat.beq m 107) (xc_107 pc) none) (cond (Nat.beq m 108) (xc_108 pc) none))) (cond (Nat.blt m 111) (cond (Nat.blt m 110) (cond (Nat.beq m 109) (xc_109 pc) none) (cond (Nat.beq m 110) (xc_110 pc) none)) (cond (Nat.blt m 112) (cond (Nat.beq m 111) (xc_111 pc) none) (cond (Nat.beq m 112) (xc_112 pc) none)))) (cond (Nat.blt m 117) (cond (Nat.blt m 115) (cond (Nat.blt m 114) (cond (Nat.beq m 113) (xc_113 pc) none) (cond (Nat.beq m 114) (xc_114 pc) none)) (cond (Nat.blt m 116) (cond (Nat.beq m 115) (xc_115 pc) none) (cond (Nat.beq m 116) (xc_116 pc) none))) (cond (Nat.blt m 119) (cond (Nat.blt m 118) (cond (Nat.beq m 117) (xc_117 pc) none) (cond (Nat.beq m 118) (xc_118 pc) none)) (cond (Nat.blt m 120) (cond (Nat.beq m 119) (xc_119 pc) none) (cond (Nat.beq m 120) (xc_120 pc) none)))))))
def xF2n : List (Nat × Nat × Nat × Nat) := [(9, 0, 2, 3), (15, 0, 3, 3), (18, 0, 4, 3), (21, 0, 5, 3), (24, 0, 6, 3), (27, 0, 7, 3), (30, 0, 9, 3), (33, 0, 10, 3), (36, 0, 1, 0), (40, 0, 8, 0), (52, 0, 0, 0)]
def xF2i : List (Nat × Nat × Nat × Nat) := [(9, 0, 2, 2), (15, 0, 3, 2), (18, 0, 4, 2), (21, 0, 5, 2), (24, 0, 6, 2), (27, 0, 7, 2), (30, 0, 9, 2), (33, 0, 10, 2), (36, 0, 1, 0), (40, 0, 8, 0), (52, 0, 0, 0)]
def xF3n : List (Nat × Nat × Nat × Nat) := [(9, 1, 1, 3), (15, 1, 2, 3), (18, 1, 3, 3), (21, 1, 4, 3), (24, 1, 6, 3), (27, 1, 7, 3), (31, 1, 8, 3), (34, 1, 9, 3), (37, 1, 10, 3), (40, 1, 11, 3), (43, 1, 12, 3), (46, 1, 13, 3), (49, 1, 0, 0), (57, 1, 5, 0)]
def xF3i : List (Nat × Nat × Nat × Nat) := [(9, 1, 1, 2), (15, 1, 2, 2), (18, 1, 3, 2), (21, 1, 4, 2), (24, 1, 6, 2), (27, 1, 7, 2), (31, 1, 8, 2), (34, 1, 9, 2), (37, 1, 10, 2), (40, 1, 11, 2), (43, 1, 12, 2), (46, 1, 13, 2), (49, 1, 0, 0), (57, 1, 5, 0)]
def xF4n : List (Nat × Nat × Nat × Nat) := [(10, 2, 0, 3), (19, 2, 1, 3), (23, 2, 2, 3), (30, 1, 0, 0), (54, 1, 5, 0), (102, 0, 0, 0), (137, 0, 7, 3), (149, 0, 1, 0), (152, 0, 2, 3), (155, 0, 3, 3), (158, 0, 4, 3), (161, 0, 5, 3), (167, 0, 6, 3), (173, 0, 8, 0), (176, 0, 9, 3), (179, 0, 10, 3), (188, 1, 1, 3), (198, 2, 3, 0), (201, 2, 4, 1), (234, 1, 6, 3), (237, 1, 7, 3), (270, 1, 4, 3), (282, 1, 2, 3)]
def xF4i : List (Nat × Nat × Nat × Nat) := [(10, 2, 0, 2), (19, 2, 1, 2), (23, 2, 2, 2), (30, 1, 0, 0), (54, 1, 5, 0), (102, 0, 0, 0), (137, 0, 7, 3), (149, 0, 1, 0), (152, 0, 2, 3), (155, 0, 3, 3), (158, 0, 4, 3), (161, 0, 5, 3), (167, 0, 6, 3), (173, 0, 8, 0), (176, 0, 9, 3), (179, 0, 10, 3), (188, 1, 1, 3), (198, 2, 3, 0), (201, 2, 4, 1), (234, 1, 6, 3), (237, 1, 7, 3), (270, 1, 4, 3), (282, 1, 2, 3)]
def xF5n : List (Nat × Nat × Nat × Nat) := [(7, 3, 1, 0), (13, 3, 2, 3), (17, 3, 3, 3), (20, 3, 4, 3), (23, 3, 6, 3), (26, 3, 7, 3), (30, 3, 8, 3), (33, 3, 9, 3), (36, 3, 10, 3), (39, 3, 11, 3), (42, 3, 12, 3), (45, 3, 13, 3), (48, 3, 14, 3), (51, 3, 18, 3), (54, 3, 19, 3), (57, 3, 20, 3), (60, 3, 21, 3), (63, 3, 22, 3), (66, 3, 23, 3), (69, 3, 25, 3), (72, 3, 26, 3), (75, 3, 28, 3), (78, 3, 29, 3), (81, 3, 30, 3), (84, 3, 31, 3), (87, 3, 32, 3), (90, 3, 33, 3), (93, 3, 35, 3), (96, 3, 36, 3), (99, 3, 40, 3), (102, 3, 41, 3), (105, 3, 42, 3), (108, 3, 0, 0), (111, 3, 15, 1), (123, 3, 5, 0), (130, 3, 37, 0), (133, 3, 16, 0), (136, 3, 38, 1), (139, 3, 24, 0), (142, 3, 17, 0), (164, 3, 39, 0), (215, 3, 27, 0), (218, 3, 34, 0)]
def xF5i : List (Nat × Nat × Nat × Nat) := [(7, 3, 1, 0), (13, 3, 2, 2), (17, 3, 3, 2), (20, 3, 4, 2), (23, 3, 6, 2), (26, 3, 7, 2), (30, 3, 8, 2), (33, 3, 9, 2), (36, 3, 10, 2), (39, 3, 11, 2), (42, 3, 12, 2), (45, 3, 13, 2), (48, 3, 14, 2), (51, 3, 18, 2), (54, 3, 19, 2), (57, 3, 20, 2), (60, 3, 21, 2), (63, 3, 22, 2), (66, 3, 23, 2), (69, 3, 25, 2), (72, 3, 26, 2), (75, 3, 28, 2), (78, 3, 29, 2), (81, 3, 30, 2), (84, 3, 31, 2), (87, 3, 32, 2), (90, 3, 33, 2), (93, 3, 35, 2), (96, 3, 36, 2), (99, 3, 40, 2), (102, 3, 41, 2), (105, 3, 42, 2), (108, 3, 0, 0), (111, 3, 15, 1), (123, 3, 5, 0), (130, 3, 37, 0), (133, 3, 16, 0), (136, 3, 38, 1), (139, 3, 24, 0), (142, 3, 17, 0), (164, 3, 39, 0), (215, 3, 27, 0), (218, 3, 34, 0)]
def xfT : Nat → Bool → List (Nat × Nat × Nat × Nat) := fun o i => match o, i with
  | 2, false => xF2n
  | 2, true => xF2i
  | 3, false => xF3n
  | 3, true => xF3i
  | 4, false => xF4n
  | 4, true => xF4i
  | 5, false => xF5n
  | 5, true => xF5i
  | _, _ => []
def xfl : Nat → Nat → Option (Nat × Nat × Nat) := fun m ix => (xfT (xow m) (xin m)).lookup ix
def xM0 : List (Nat × Nat × Nat × Nat) := [(7, 1, 28, 3), (17, 1, 29, 2), (21, 1, 30, 3), (24, 1, 31, 4), (28, 1, 32, 1), (34, 1, 33, 2), (40, 1, 34, 2), (43, 2, 27, 0), (46, 2, 67, 0), (47, 0, 114, 5), (52, 1, 71, 3), (53, 1, 68, 0), (57, 0, 115, 4), (60, 1, 72, 2), (61, 0, 116, 5), (63, 1, 74, 3), (64, 0, 117, 5), (67, 1, 75, 4), (68, 0, 118, 3), (71, 1, 101, 1), (72, 0, 119, 4), (75, 1, 104, 2), (76, 0, 120, 4), (78, 1, 107, 2), (79, 1, 35, 1), (82, 1, 108, 1), (83, 1, 36, 0), (86, 1, 109, 0), (87, 1, 37, 2), (90, 1, 110, 2), (91, 1, 38, 3), (95, 1, 111, 3), (96, 1, 39, 2), (100, 1, 105, 2), (101, 1, 40, 0), (104, 1, 112, 0), (105, 1, 41, 2), (108, 1, 113, 2)]
def xM1 : List (Nat × Nat × Nat × Nat) := []
def xM2 : List (Nat × Nat × Nat × Nat) := [(3, 9, 0, 0), (43, 0, 1, 2), (55, 8, 0, 0)]
def xM3 : List (Nat × Nat × Nat × Nat) := [(3, 9, 0, 0), (53, 1, 12, 1), (60, 0, 11, 2), (64, 1, 19, 1), (67, 0, 42, 1), (70, 1, 26, 2)]
def xM4 : List (Nat × Nat × Nat × Nat) := [(1, 9, 0, 0), (9, 2, 10, 0), (18, 2, 2, 0), (26, 1, 3, 0), (41, 1, 13, 1), (50, 1, 16, 3), (59, 1, 17, 2), (65, 1, 18, 2), (69, 1, 20, 1), (74, 1, 19, 1), (77, 1, 21, 3), (83, 1, 22, 3), (88, 0, 42, 1), (93, 1, 23, 4), (99, 1, 47, 0), (105, 1, 57, 3), (109, 1, 58, 3), (112, 1, 48, 0), (116, 1, 4, 1), (124, 0, 43, 1), (129, 1, 44, 2), (141, 1, 24, 2), (145, 1, 60, 1), (164, 1, 5, 1), (170, 0, 11, 2), (182, 1, 46, 1), (185, 1, 45, 2), (191, 1, 54, 1), (194, 1, 9, 1), (205, 1, 49, 0), (208, 1, 50, 0), (211, 1, 52, 1), (214, 1, 51, 0), (222, 1, 53, 2), (225, 1, 15, 1), (228, 1, 55, 1), (231, 1, 14, 2), (241, 1, 25, 3), (245, 1, 6, 1), (248, 1, 56, 1), (251, 1, 7, 2), (254, 1, 8, 2), (258, 1, 59, 2), (261, 1, 62, 3), (264, 1, 66, 2), (267, 1, 61, 2), (273, 1, 63, 2), (276, 1, 64, 2), (279, 1, 65, 4)]
def xM5 : List (Nat × Nat × Nat × Nat) := [(1, 9, 0, 0), (115, 1, 69, 1), (119, 0, 70, 2), (126, 1, 73, 1), (145, 1, 76, 1), (148, 1, 81, 2), (151, 1, 82, 2), (155, 0, 84, 1), (158, 1, 77, 1), (161, 1, 83, 2), (167, 1, 86, 2), (170, 1, 78, 2), (173, 1, 79, 1), (176, 1, 80, 1), (179, 1, 85, 2), (182, 1, 87, 2), (185, 1, 89, 2), (188, 1, 91, 1), (191, 1, 90, 2), (195, 1, 92, 1), (198, 1, 88, 2), (201, 1, 93, 0), (205, 1, 94, 0), (208, 1, 96, 1), (212, 1, 95, 0), (221, 1, 97, 0), (224, 1, 99, 0), (227, 1, 98, 0), (230, 1, 100, 1), (233, 1, 102, 2), (236, 1, 103, 2), (240, 1, 106, 1)]
def xmT : Nat → List (Nat × Nat × Nat × Nat) := fun o => match o with
  | 0 => xM0
  | 1 => xM1
  | 2 => xM2
  | 3 => xM3
  | 4 => xM4
  | 5 => xM5
  | _ => []
def xml : Nat → Nat → Option (Nat × Nat × Nat) := fun m ix => (xmT (xow m)).lookup ix
def xgs : Nat → Nat → Option Nat := fun m ix => cond (Nat.beq (xow m) 2) (cond (Nat.beq ix 49) (some 1001) none) none
def xN0 : List (Nat × Nat × List Value) := [(8, 2, [.null, .null, .null, .int 0, .int 0]), (44, 3, [.int 0, .int 0, .null, .null, .null, .int 0, .null, .null, .null, .null, .null, .null, .null, .null, .null, .int 0, .int 0, .int 0, .null, .null, .null, .null, .null, .null, .int 0, .null, .null, .int 0, .null, .null, .null, .null, .null, .null, .int 0, .null, .null, .int 0, .int 0, .int 0, .null, .null, .null])]
def xN4 : List (Nat × Nat × List Value) := [(7, 1, [.int 0, .null, .null, .null, .null, .int 0, .null, .null, .null, .null, .null, .null, .null, .null]), (16, 0, [.int 0, .int 0, .null, .null, .null, .null, .null, .null, .int 0, .null, .null])]
def xnT : Nat → List (Nat × Nat × List Value) := fun o => match o with
  | 0 => xN0
  | 4 => xN4
  | _ => []
def xnw : Nat → Nat → Option (Nat × List Value) := fun m ix => (xnT (xow m)).lookup ix
def xth : Nat → Nat → Option Nat := fun m pc => cond (Nat.blt m 32) (cond (Nat.blt m 30) (cond (Nat.blt m 29) (cond (Nat.beq m 28) (cond (Nat.blt pc 85) (cond (Nat.beq pc 22) (some 0) none) (cond (Nat.beq pc 85) (some 1) none)) none) (cond (Nat.beq m 29) (cond (Nat.blt pc 44) (cond (Nat.beq pc 22) (some 0) none) (cond (Nat.beq pc 44) (some 1) none)) none)) (cond (Nat.blt m 31) (cond (Nat.beq m 30) (cond (Nat.blt pc 55) (cond (Nat.beq pc 21) (some 0) none) (cond (Nat.beq pc 55) (some 1) none)) none) (cond (Nat.beq m 31) (cond (Nat.blt pc 47) (cond (Nat.beq pc 10) (some 0) none) (cond (Nat.beq pc 47) (some 1) none)) none))) (cond (Nat.blt m 34) (cond (Nat.blt m 33) (cond (Nat.beq m 32) (cond (Nat.blt pc 31) (cond (Nat.beq pc 10) (some 0) none) (cond (Nat.beq pc 31) (some 1) none)) none) (cond (Nat.beq m 33) (cond (Nat.blt pc 28) (cond (Nat.beq pc 11) (some 3) none) (cond (Nat.blt pc 47) (cond (Nat.beq pc 28) (some 1) none) (cond (Nat.beq pc 47) (some 0) none))) none)) (cond (Nat.blt m 48) (cond (Nat.beq m 34) (cond (Nat.beq pc 7) (some 1) none) none) (cond (Nat.beq m 48) (cond (Nat.beq pc 96) (some 2) none) none)))
def xex : Nat → String × List String := fun q => match q with
  | 0 => ("java/lang/IllegalStateException", ["java/lang/RuntimeException", "java/lang/Exception"])
  | 1 => ("java/lang/IllegalArgumentException", ["java/lang/RuntimeException", "java/lang/Exception"])
  | 2 => ("java/lang/UnsupportedOperationException", ["java/lang/RuntimeException", "java/lang/Exception"])
  | _ => ("java/util/NoSuchElementException", ["java/lang/RuntimeException", "java/lang/Exception"])
def xca : Nat → Nat → Nat → Option (Option Nat) := fun m pc e => cond (Nat.blt m 114) (some none) (cond (Nat.blt m 117) (cond (Nat.blt m 115) (cond (Nat.beq m 114) (cond (Nat.beq pc 7) (cond (Nat.blt e 1) (cond (Nat.beq e 0) (some (some 15)) none) (cond (Nat.beq e 1) (some (some 19)) none)) none) none) (cond (Nat.blt m 116) (cond (Nat.beq m 115) (cond (Nat.beq pc 5) (cond (Nat.blt e 1) (cond (Nat.beq e 0) (some (some 13)) none) (cond (Nat.beq e 1) (some (some 17)) none)) none) none) (cond (Nat.beq m 116) (cond (Nat.beq pc 7) (cond (Nat.blt e 1) (cond (Nat.beq e 0) (some (some 15)) none) (cond (Nat.beq e 1) (some (some 19)) none)) none) none))) (cond (Nat.blt m 119) (cond (Nat.blt m 118) (cond (Nat.beq m 117) (cond (Nat.beq pc 6) (cond (Nat.blt e 1) (cond (Nat.beq e 0) (some (some 12)) none) (cond (Nat.beq e 1) (some (some 16)) none)) none) none) (cond (Nat.beq m 118) (cond (Nat.beq pc 4) (cond (Nat.blt e 1) (cond (Nat.beq e 0) (some (some 12)) none) (cond (Nat.blt e 2) (cond (Nat.beq e 1) (some (some 15)) none) (cond (Nat.beq e 2) (some (some 18)) none))) none) none)) (cond (Nat.blt m 120) (cond (Nat.beq m 119) (cond (Nat.beq pc 5) (cond (Nat.blt e 2) (cond (Nat.blt e 1) (cond (Nat.beq e 0) (some (some 21)) none) (cond (Nat.beq e 1) (some (some 17)) none)) (cond (Nat.blt e 3) (cond (Nat.beq e 2) (some (some 25)) none) (cond (Nat.beq e 3) (some (some 13)) none))) none) none) (cond (Nat.beq m 120) (cond (Nat.beq pc 5) (cond (Nat.blt e 2) (cond (Nat.beq e 1) (some (some 13)) none) (cond (Nat.beq e 2) (some (some 17)) none)) none) none))))
def xst : Nat → Int32 := fun k => match k with
  | 0 => 0
  | 1 => 1
  | 2 => 2
  | 3 => 4
  | 4 => 4
  | 5 => 3
  | 6 => 2
  | 7 => 6
  | 8 => 2
  | _ => 5
def xgv (L : Nat) (xs : Nat → Int32) : Nat → Option (Nat × (Nat → Int32)) := fun a => cond (Nat.beq a 1000) (some (L, xs)) (cond (Nat.beq a 1001) (some (10, xst)) none)
def xmt : Nat → Nat × Option FieldType := fun m => (xkn (xow m), xrt m)
def xX (L : Nat) (xs : Nat → Int32) : xj_T := (xcd, xfl, xml, xgs, xnw, xth, xca, xgv L xs, xmt)
end
section
/-! the words that our frames use, and that the tables have them -/
def xcm : List Jvm.Cond := lw_tbl.filter goodWord
theorem xcm_good : xcm.all goodWord = true := List.all_eq_true.mpr fun w h => (List.mem_filter.mp h).2
def xwk : List Jvm.Cond := [.fieldLinkNest "CaseDesk$Life" 49 "CaseDesk" "STATE_AFTER" "[I" "CaseDesk", .methodLinkNest "CaseDesk" 18 ⟨"CaseDesk$Life", "<init>", "()V"⟩ "CaseDesk", .methodLinkNest "CaseDesk$Plan" 67 ⟨"CaseDesk", "isVariable", "(I)Z"⟩ "CaseDesk", .castable "java/lang/IllegalStateException" "java/lang/IllegalStateException", .castable "java/lang/IllegalArgumentException" "java/lang/IllegalArgumentException", .castable "java/lang/UnsupportedOperationException" "java/lang/UnsupportedOperationException", .castable "java/util/NoSuchElementException" "java/util/NoSuchElementException", .declares ⟨"java/lang/RuntimeException", "<init>", "(Ljava/lang/String;)V"⟩, .declares ⟨"java/lang/Exception", "<init>", "(Ljava/lang/String;)V"⟩, .declares ⟨"java/lang/Throwable", "<init>", "(Ljava/lang/String;)V"⟩]
theorem xwk_ok : xj_Wk xwk := by
  intro w hw
  simp only [xwk, List.mem_cons, List.not_mem_nil, or_false] at hw
  rcases hw with rfl | rfl | rfl | rfl | rfl | rfl | rfl | rfl | rfl | rfl
  · exact ⟨rfl, fun _ _ hW h => va_Nw.warmF hW h⟩
  · exact ⟨rfl, fun _ _ hW h => va_Nw.warmM hW h⟩
  · exact ⟨rfl, fun _ _ hW h => va_Nw.warmM hW h⟩
  · exact ⟨rfl, fun _ _ hW h => va_Nw.warmC hW h⟩
  · exact ⟨rfl, fun _ _ hW h => va_Nw.warmC hW h⟩
  · exact ⟨rfl, fun _ _ hW h => va_Nw.warmC hW h⟩
  · exact ⟨rfl, fun _ _ hW h => va_Nw.warmC hW h⟩
  · exact ⟨rfl, fun _ _ hW h => va_Nw.warmD hW h⟩
  · exact ⟨rfl, fun _ _ hW h => va_Nw.warmD hW h⟩
  · exact ⟨rfl, fun _ _ hW h => va_Nw.warmD hW h⟩
theorem xwk_in : ∀ w ∈ xwk, w ∈ lw_tbl := by decide +kernel
def xsl : List (String × Nat × String) := [("CaseDesk", 36, "the case has begun, or there are 12 items"), ("CaseDesk", 47, "no such kind, stage or flags"), ("CaseDesk", 57, "the case has begun, or there are 16 sentries"), ("CaseDesk", 63, "no item that can have such a sentry"), ("CaseDesk", 72, "the case has begun, or the sentry has two on-parts"), ("CaseDesk", 81, "no such sentry, source or move"), ("CaseDesk", 86, "the case has begun"), ("CaseDesk", 91, "no such sentry, variable or sign"), ("CaseDesk", 97, "no such bound"), ("CaseDesk", 219, "the command was cut off"), ("CaseDesk", 121, "no such instance"), ("CaseDesk", 127, "no move for a command"), ("CaseDesk", 133, "the instance can't make this move now"), ("CaseDesk", 135, "no such variable")]
def xnc : List (String × String) := [("java/lang/IllegalStateException", "java/lang/IllegalArgumentException"), ("java/lang/IllegalStateException", "java/lang/UnsupportedOperationException"), ("java/lang/IllegalStateException", "java/util/NoSuchElementException"), ("java/lang/IllegalArgumentException", "java/lang/IllegalStateException"), ("java/lang/IllegalArgumentException", "java/lang/UnsupportedOperationException"), ("java/lang/IllegalArgumentException", "java/util/NoSuchElementException"), ("java/lang/UnsupportedOperationException", "java/lang/IllegalStateException"), ("java/lang/UnsupportedOperationException", "java/lang/IllegalArgumentException"), ("java/lang/UnsupportedOperationException", "java/util/NoSuchElementException"), ("java/util/NoSuchElementException", "java/lang/IllegalStateException"), ("java/util/NoSuchElementException", "java/lang/IllegalArgumentException"), ("java/util/NoSuchElementException", "java/lang/UnsupportedOperationException")]
theorem xcl_0a : ∀ w ∈ u_ws "CaseDesk$Life" xT0 11, w ∈ xcm := by decide +kernel
theorem xcl_0b : ∀ k, k < 11 → parseFieldDescriptor (xT0 k).2.2.1 = some (xt0 k) := by decide +kernel
theorem xcl_0c : ∀ a, a < 11 → ∀ b, b < 11 → a ≠ b → (xT0 a).2.1 ≠ (xT0 b).2.1 := by decide +kernel
theorem xcl_1a : ∀ w ∈ u_ws "CaseDesk$Plan" xT1 14, w ∈ xcm := by decide +kernel
theorem xcl_1b : ∀ k, k < 14 → parseFieldDescriptor (xT1 k).2.2.1 = some (xt1 k) := by decide +kernel
theorem xcl_1c : ∀ a, a < 14 → ∀ b, b < 14 → a ≠ b → (xT1 a).2.1 ≠ (xT1 b).2.1 := by decide +kernel
theorem xcl_2a : ∀ w ∈ u_ws "CaseDesk" xT2 5, w ∈ xcm := by decide +kernel
theorem xcl_2b : ∀ k, k < 5 → parseFieldDescriptor (xT2 k).2.2.1 = some (xt2 k) := by decide +kernel
theorem xcl_2c : ∀ a, a < 5 → ∀ b, b < 5 → a ≠ b → (xT2 a).2.1 ≠ (xT2 b).2.1 := by decide +kernel
theorem xcl_3a : ∀ w ∈ u_ws "CaseDeskModel" xT3 43, w ∈ xcm := by decide +kernel
theorem xcl_3b : ∀ k, k < 43 → parseFieldDescriptor (xT3 k).2.2.1 = some (xt3 k) := by decide +kernel
theorem xcl_3c : ∀ a, a < 43 → ∀ b, b < 43 → a ≠ b → (xT3 a).2.1 ≠ (xT3 b).2.1 := by decide +kernel
theorem xcl_ok : ∀ (ci : Nat) (C : String) (T : u_T) (N : Nat), xcl[ci]? = some (C, T, N) → (∀ w ∈ u_ws C T N, w ∈ xcm) ∧ (∀ k, k < N → parseFieldDescriptor (T k).2.2.1 = some (xty ci k)) ∧ (∀ a, a < N → ∀ b, b < N → a ≠ b → (T a).2.1 ≠ (T b).2.1) := by
  intro ci C T N h
  match ci, h with
  | 0, h => cases h; exact ⟨xcl_0a, xcl_0b, xcl_0c⟩
  | 1, h => cases h; exact ⟨xcl_1a, xcl_1b, xcl_1c⟩
  | 2, h => cases h; exact ⟨xcl_2a, xcl_2b, xcl_2c⟩
  | 3, h => cases h; exact ⟨xcl_3a, xcl_3b, xcl_3c⟩
  | n + 4, h => cases h
def xj_isR : FieldType → Bool
  | .array _ => true
  | .object _ => true
  | _ => false
theorem xj_isR_ok {t : FieldType} (h : xj_isR t = true) : (∃ a, t = .array a) ∨ ∃ n, t = .object n := by
  cases t <;> first | exact Or.inl ⟨_, rfl⟩ | exact Or.inr ⟨_, rfl⟩ | cases h
def xj_flk (own : String) (ini : Bool) (q : Nat × Nat × Nat × Nat) : Bool := match xcl[q.2.1]? with
  | none => false
  | some (_, T, N) => decide (q.2.2.1 < N) && decide (Jvm.Cond.fieldLink own q.1 (T q.2.2.1).1 (T q.2.2.1).2.1 (T q.2.2.1).2.2.1 ∈ xcm) &&
    (decide (q.2.2.2 ≠ 0) || (decide (xty q.2.1 q.2.2.1 = .int) && !(T q.2.2.1).2.2.2)) && (decide (q.2.2.2 ≠ 1) || (decide (xty q.2.1 q.2.2.1 = .boolean) && !(T q.2.2.1).2.2.2)) &&
    (decide (q.2.2.2 ≠ 2) || (xj_isR (xty q.2.1 q.2.2.1) && (T q.2.2.1).2.2.2 && decide ((T q.2.2.1).1 = own) && ini))
theorem xj_flk_ok {own : String} {ini : Bool} {tab : List (Nat × Nat × Nat × Nat)} (h : tab.all (xj_flk own ini) = true) {ix ci k so : Nat} (hl : tab.lookup ix = some (ci, k, so)) :
    ∃ (C : String) (T : u_T) (N : Nat) (ty0 : Nat → FieldType), xcl[ci]? = some (C, T, N) ∧ (∀ w ∈ u_ws C T N, w ∈ xcm) ∧ (∀ k, k < N → parseFieldDescriptor (T k).2.2.1 = some (ty0 k)) ∧ (∀ a, a < N → ∀ b, b < N → a ≠ b → (T a).2.1 ≠ (T b).2.1) ∧ k < N ∧
    Jvm.Cond.fieldLink own ix (T k).1 (T k).2.1 (T k).2.2.1 ∈ xcm ∧
    (so = 0 → ty0 k = .int ∧ (T k).2.2.2 = false) ∧ (so = 1 → ty0 k = .boolean ∧ (T k).2.2.2 = false) ∧ (so = 2 → ((∃ t, ty0 k = .array t) ∨ ∃ n, ty0 k = .object n) ∧ (T k).2.2.2 = true ∧ (T k).1 = own ∧ ini = true) := by
  have h1 := List.all_eq_true.mp h _ (xj_lku hl)
  unfold xj_flk at h1
  simp only at h1
  split at h1
  · cases h1
  · rename_i C T N hcl
    simp only [Bool.and_eq_true, Bool.or_eq_true, decide_eq_true_eq, Bool.not_eq_true'] at h1
    obtain ⟨⟨⟨⟨a1, a2⟩, a3⟩, a4⟩, a5⟩ := h1
    obtain ⟨c1, c2, c3⟩ := xcl_ok _ _ _ _ hcl
    refine ⟨C, T, N, xty ci, hcl, c1, c2, c3, a1, a2, fun e => ?_, fun e => ?_, fun e => ?_⟩
    · exact a3.resolve_left (fun q => q e)
    · exact a4.resolve_left (fun q => q e)
    · obtain ⟨⟨⟨b1, b2⟩, b3⟩, b4⟩ := a5.resolve_left (fun q => q e)
      exact ⟨xj_isR_ok b1, b2, b3, b4⟩
theorem xF2n_ok : xF2n.all (xj_flk "CaseDesk$Life" false) = true := by decide +kernel
theorem xF2i_ok : xF2i.all (xj_flk "CaseDesk$Life" true) = true := by decide +kernel
theorem xF3n_ok : xF3n.all (xj_flk "CaseDesk$Plan" false) = true := by decide +kernel
theorem xF3i_ok : xF3i.all (xj_flk "CaseDesk$Plan" true) = true := by decide +kernel
theorem xF4n_ok : xF4n.all (xj_flk "CaseDesk" false) = true := by decide +kernel
theorem xF4i_ok : xF4i.all (xj_flk "CaseDesk" true) = true := by decide +kernel
theorem xF5n_ok : xF5n.all (xj_flk "CaseDeskModel" false) = true := by decide +kernel
theorem xF5i_ok : xF5i.all (xj_flk "CaseDeskModel" true) = true := by decide +kernel
end
section
/-! calls, new, throws, catches: the tables have their words -/
theorem xcls0 : ∀ mi, mi < 121 → (xyN mi).cls = xcn (xow mi) ∧ (xin mi = true → (xyN mi).name = "<init>") := by decide +kernel
theorem xlt {mi : Nat} (h : xow mi ≠ 9) : mi < 121 := by
  rcases Nat.lt_or_ge mi 121 with h9 | h9
  · exact h9
  · exfalso
    apply h
    unfold xow
    have : Nat.blt mi 121 = false := by
      cases hb : Nat.blt mi 121 with
      | false => rfl
      | true => have := Nat.le_of_ble_eq_true hb; omega
    rw [this]
    rfl
theorem xcls {mi : Nat} (h : xow mi ≠ 9) : (xyN mi).cls = xcn (xow mi) := (xcls0 mi (xlt h)).1
abbrev xwd (y : Nat) : Jvm.Cond := xj_wd (xX 0 (fun _ => 0)) xyN xbt xmx xhh y
def xGMb (own : String) (q : Nat × Nat × Nat × Nat) : Bool :=
  (decide (¬ q.2.1 < 3) || ((plainFor (xyN q.2.2.1) && (decide (q.2.1 = 0 ∧ xhh q.2.2.1 = []) || plainName (xyN q.2.2.1).cls)) && decide (xmx q.2.2.1 ≤ 29) && decide (q.2.2.2 + 1 ≤ xmx q.2.2.1 + (if q.2.1 = 0 then 1 else 0)) && decide (xwd q.2.2.1 ∈ xcm) && decide (Jvm.Cond.initialized (xyN q.2.2.1).cls ∈ xcm) && decide ((xyN q.2.2.1).cls ≠ "java/lang/invoke/MethodHandle") && decide ((xyN q.2.2.1).cls ≠ "java/lang/invoke/VarHandle") && decide ((parseMethodDescriptor (xyN q.2.2.1).desc).map (fun d => d.parameters.length) = some q.2.2.2) &&
    (decide (q.2.1 ≠ 0) || decide (Jvm.Cond.static (xyN q.2.2.1) ∈ xcm)) &&
    (decide (q.2.1 ≠ 1) || (decide (xhh q.2.2.1 = []) && decide (Jvm.Cond.instanceMethod (xyN q.2.2.1) ∈ xcm) && decide (Jvm.Cond.selects (xyN q.2.2.1).cls (xyN q.2.2.1) (xyN q.2.2.1) ∈ xcm) && decide ((xcl[(xmt q.2.2.1).1]?).map (fun c => c.1) = some (xyN q.2.2.1).cls))) &&
    (decide (q.2.1 ≠ 2) || (decide (xhh q.2.2.1 = []) && decide ((xyN q.2.2.1).name = "<init>") && decide (Jvm.Cond.instanceMethod (xyN q.2.2.1) ∈ xcm) && decide ((xmt q.2.2.1).2 = none))) &&
    (decide (Jvm.Cond.methodLink own q.1 (xyN q.2.2.1) ∈ xcm) || (decide (q.2.1 ≠ 1) && decide (xhh q.2.2.1 = []) && decide (Jvm.Cond.methodLinkNest own q.1 (xyN q.2.2.1) "CaseDesk" ∈ xwk))))) &&
  (decide (q.2.1 ≠ 9) || (decide (Jvm.Cond.methodLink own q.1 Lib.objectInit ∈ xcm) && decide (Jvm.Cond.instanceMethod Lib.objectInit ∈ xcm) && decide (Jvm.Cond.code Lib.objectInit ⟨#[0xb1]⟩ 1 none ∈ xcm))) &&
  (decide (q.2.1 ≠ 8) || (decide (Jvm.Cond.methodLink own q.1 arraycopyName ∈ xcm) && decide (Jvm.Cond.native arraycopyName ∈ xcm) && decide (Jvm.Cond.static arraycopyName ∈ xcm) && decide (Jvm.Cond.initialized "java/lang/System" ∈ xcm)))
theorem xGMb_ok {own : String} {ix kd y k : Nat} (h : xGMb own (ix, kd, y, k) = true) (hk : kd < 3) {mi L : Nat} {xs : Nat → Int32} (ho : (xyN mi).cls = own) : xj_GM (xX L xs) xyN xbt xmx xhh xcm xcl xwk mi ix kd y k := by
  unfold xGMb at h
  simp only [Bool.and_eq_true] at h
  obtain ⟨⟨h, -⟩, -⟩ := h
  rw [Bool.or_eq_true] at h
  rcases h with h | h
  · exact absurd hk (of_decide_eq_true h)
  · simp only [Bool.and_eq_true] at h
    obtain ⟨⟨⟨⟨⟨⟨⟨⟨⟨⟨⟨a1, a2⟩, a3⟩, a4⟩, a5⟩, a6⟩, a7⟩, a8⟩, a9⟩, a10⟩, a11⟩, a12⟩ := h
    simp only [Bool.and_eq_true, Bool.or_eq_true, decide_eq_true_eq] at a1
    refine ⟨⟨a1.1, fun e => a1.2.resolve_left (fun z => e.elim (fun u => u z.1) (fun u => u z.2))⟩, of_decide_eq_true a2, of_decide_eq_true a3, of_decide_eq_true a4, of_decide_eq_true a5, ⟨of_decide_eq_true a6, of_decide_eq_true a7⟩, of_decide_eq_true a8, fun e => ?_, fun e => ?_, fun e => ?_, ?_⟩
    · rw [Bool.or_eq_true] at a9
      rcases a9 with a9 | a9
      · exact absurd e (of_decide_eq_true a9)
      · exact of_decide_eq_true a9
    · rw [Bool.or_eq_true] at a10
      rcases a10 with a10 | a10
      · exact absurd e (of_decide_eq_true a10)
      · simp only [Bool.and_eq_true] at a10
        obtain ⟨⟨⟨b1, b2⟩, b3⟩, b4⟩ := a10
        have b4 := of_decide_eq_true b4
        obtain ⟨⟨C, T, N⟩, hc, he⟩ := Option.map_eq_some_iff.mp b4
        exact ⟨of_decide_eq_true b1, of_decide_eq_true b2, of_decide_eq_true b3, T, N, by rw [← he]; exact hc⟩
    · rw [Bool.or_eq_true] at a11
      rcases a11 with a11 | a11
      · exact absurd e (of_decide_eq_true a11)
      · simp only [Bool.and_eq_true] at a11
        obtain ⟨⟨⟨b1, b2⟩, b3⟩, b4⟩ := a11
        exact ⟨of_decide_eq_true b1, of_decide_eq_true b2, of_decide_eq_true b3, of_decide_eq_true b4⟩
    · rw [ho]
      rw [Bool.or_eq_true] at a12
      rcases a12 with a12 | a12
      · exact Or.inl (of_decide_eq_true a12)
      · simp only [Bool.and_eq_true] at a12
        obtain ⟨⟨b1, b2⟩, b3⟩ := a12
        exact Or.inr ⟨of_decide_eq_true b1, of_decide_eq_true b2, "CaseDesk", of_decide_eq_true b3⟩
theorem xGMb_9 {own : String} {ix y k : Nat} (h : xGMb own (ix, 9, y, k) = true) : Jvm.Cond.methodLink own ix Lib.objectInit ∈ xcm ∧ Jvm.Cond.instanceMethod Lib.objectInit ∈ xcm ∧ Jvm.Cond.code Lib.objectInit ⟨#[0xb1]⟩ 1 none ∈ xcm := by
  unfold xGMb at h
  simp only [Bool.and_eq_true] at h
  obtain ⟨⟨-, h⟩, -⟩ := h
  rw [Bool.or_eq_true] at h
  rcases h with h | h
  · exact absurd rfl (of_decide_eq_true h)
  · simp only [Bool.and_eq_true] at h
    exact ⟨of_decide_eq_true h.1.1, of_decide_eq_true h.1.2, of_decide_eq_true h.2⟩
theorem xGMb_8 {own : String} {ix y k : Nat} (h : xGMb own (ix, 8, y, k) = true) : Jvm.Cond.methodLink own ix arraycopyName ∈ xcm ∧ Jvm.Cond.native arraycopyName ∈ xcm ∧ Jvm.Cond.static arraycopyName ∈ xcm ∧ Jvm.Cond.initialized "java/lang/System" ∈ xcm := by
  unfold xGMb at h
  simp only [Bool.and_eq_true] at h
  obtain ⟨-, h⟩ := h
  rw [Bool.or_eq_true] at h
  rcases h with h | h
  · exact absurd rfl (of_decide_eq_true h)
  · simp only [Bool.and_eq_true] at h
    exact ⟨of_decide_eq_true h.1.1.1, of_decide_eq_true h.1.1.2, of_decide_eq_true h.1.2, of_decide_eq_true h.2⟩
end
section
set_option maxRecDepth 100000 in
theorem xM0_0 : ([(7, 1, 28, 3), (17, 1, 29, 2), (21, 1, 30, 3), (24, 1, 31, 4), (28, 1, 32, 1), (34, 1, 33, 2), (40, 1, 34, 2), (43, 2, 27, 0), (46, 2, 67, 0), (47, 0, 114, 5), (52, 1, 71, 3), (53, 1, 68, 0)] : List (Nat × Nat × Nat × Nat)).all (xGMb "CaseDeskLaw") = true := by decide +kernel
set_option maxRecDepth 100000 in
theorem xM0_1 : ([(57, 0, 115, 4), (60, 1, 72, 2), (61, 0, 116, 5), (63, 1, 74, 3), (64, 0, 117, 5), (67, 1, 75, 4), (68, 0, 118, 3), (71, 1, 101, 1), (72, 0, 119, 4), (75, 1, 104, 2), (76, 0, 120, 4), (78, 1, 107, 2)] : List (Nat × Nat × Nat × Nat)).all (xGMb "CaseDeskLaw") = true := by decide +kernel
set_option maxRecDepth 100000 in
theorem xM0_2 : ([(79, 1, 35, 1), (82, 1, 108, 1), (83, 1, 36, 0), (86, 1, 109, 0), (87, 1, 37, 2), (90, 1, 110, 2), (91, 1, 38, 3), (95, 1, 111, 3), (96, 1, 39, 2), (100, 1, 105, 2), (101, 1, 40, 0), (104, 1, 112, 0)] : List (Nat × Nat × Nat × Nat)).all (xGMb "CaseDeskLaw") = true := by decide +kernel
set_option maxRecDepth 100000 in
theorem xM0_3 : ([(105, 1, 41, 2), (108, 1, 113, 2)] : List (Nat × Nat × Nat × Nat)).all (xGMb "CaseDeskLaw") = true := by decide +kernel
set_option maxRecDepth 100000 in
theorem xM0_ok : xM0.all (xGMb "CaseDeskLaw") = true := by
  show ([(7, 1, 28, 3), (17, 1, 29, 2), (21, 1, 30, 3), (24, 1, 31, 4), (28, 1, 32, 1), (34, 1, 33, 2), (40, 1, 34, 2), (43, 2, 27, 0), (46, 2, 67, 0), (47, 0, 114, 5), (52, 1, 71, 3), (53, 1, 68, 0)] ++ [(57, 0, 115, 4), (60, 1, 72, 2), (61, 0, 116, 5), (63, 1, 74, 3), (64, 0, 117, 5), (67, 1, 75, 4), (68, 0, 118, 3), (71, 1, 101, 1), (72, 0, 119, 4), (75, 1, 104, 2), (76, 0, 120, 4), (78, 1, 107, 2)] ++ [(79, 1, 35, 1), (82, 1, 108, 1), (83, 1, 36, 0), (86, 1, 109, 0), (87, 1, 37, 2), (90, 1, 110, 2), (91, 1, 38, 3), (95, 1, 111, 3), (96, 1, 39, 2), (100, 1, 105, 2), (101, 1, 40, 0), (104, 1, 112, 0)] ++ [(105, 1, 41, 2), (108, 1, 113, 2)] : List (Nat × Nat × Nat × Nat)).all _ = true
  simp only [List.all_append, Bool.and_eq_true]
  exact ⟨⟨⟨xM0_0, xM0_1⟩, xM0_2⟩, xM0_3⟩
end
section
theorem xM1_ok : xM1.all (xGMb "java/lang/Math") = true := rfl
end
section
set_option maxRecDepth 100000 in
theorem xM2_0 : ([(3, 9, 0, 0), (43, 0, 1, 2), (55, 8, 0, 0)] : List (Nat × Nat × Nat × Nat)).all (xGMb "CaseDesk$Life") = true := by decide +kernel
set_option maxRecDepth 100000 in
theorem xM2_ok : xM2.all (xGMb "CaseDesk$Life") = true := by
  show ([(3, 9, 0, 0), (43, 0, 1, 2), (55, 8, 0, 0)] : List (Nat × Nat × Nat × Nat)).all _ = true
  exact xM2_0
end
section
set_option maxRecDepth 100000 in
theorem xM3_0 : ([(3, 9, 0, 0), (53, 1, 12, 1), (60, 0, 11, 2), (64, 1, 19, 1), (67, 0, 42, 1), (70, 1, 26, 2)] : List (Nat × Nat × Nat × Nat)).all (xGMb "CaseDesk$Plan") = true := by decide +kernel
set_option maxRecDepth 100000 in
theorem xM3_ok : xM3.all (xGMb "CaseDesk$Plan") = true := by
  show ([(3, 9, 0, 0), (53, 1, 12, 1), (60, 0, 11, 2), (64, 1, 19, 1), (67, 0, 42, 1), (70, 1, 26, 2)] : List (Nat × Nat × Nat × Nat)).all _ = true
  exact xM3_0
end
section
set_option maxRecDepth 100000 in
theorem xM4_0 : ([(1, 9, 0, 0), (9, 2, 10, 0), (18, 2, 2, 0), (26, 1, 3, 0), (41, 1, 13, 1), (50, 1, 16, 3), (59, 1, 17, 2), (65, 1, 18, 2), (69, 1, 20, 1), (74, 1, 19, 1), (77, 1, 21, 3), (83, 1, 22, 3)] : List (Nat × Nat × Nat × Nat)).all (xGMb "CaseDesk") = true := by decide +kernel
set_option maxRecDepth 100000 in
theorem xM4_1 : ([(88, 0, 42, 1), (93, 1, 23, 4), (99, 1, 47, 0), (105, 1, 57, 3), (109, 1, 58, 3), (112, 1, 48, 0), (116, 1, 4, 1), (124, 0, 43, 1), (129, 1, 44, 2), (141, 1, 24, 2), (145, 1, 60, 1), (164, 1, 5, 1)] : List (Nat × Nat × Nat × Nat)).all (xGMb "CaseDesk") = true := by decide +kernel
set_option maxRecDepth 100000 in
theorem xM4_2 : ([(170, 0, 11, 2), (182, 1, 46, 1), (185, 1, 45, 2), (191, 1, 54, 1), (194, 1, 9, 1), (205, 1, 49, 0), (208, 1, 50, 0), (211, 1, 52, 1), (214, 1, 51, 0), (222, 1, 53, 2), (225, 1, 15, 1), (228, 1, 55, 1)] : List (Nat × Nat × Nat × Nat)).all (xGMb "CaseDesk") = true := by decide +kernel
set_option maxRecDepth 100000 in
theorem xM4_3 : ([(231, 1, 14, 2), (241, 1, 25, 3), (245, 1, 6, 1), (248, 1, 56, 1), (251, 1, 7, 2), (254, 1, 8, 2), (258, 1, 59, 2), (261, 1, 62, 3), (264, 1, 66, 2), (267, 1, 61, 2), (273, 1, 63, 2), (276, 1, 64, 2)] : List (Nat × Nat × Nat × Nat)).all (xGMb "CaseDesk") = true := by decide +kernel
set_option maxRecDepth 100000 in
theorem xM4_4 : ([(279, 1, 65, 4)] : List (Nat × Nat × Nat × Nat)).all (xGMb "CaseDesk") = true := by decide +kernel
set_option maxRecDepth 100000 in
theorem xM4_ok : xM4.all (xGMb "CaseDesk") = true := by
  show ([(1, 9, 0, 0), (9, 2, 10, 0), (18, 2, 2, 0), (26, 1, 3, 0), (41, 1, 13, 1), (50, 1, 16, 3), (59, 1, 17, 2), (65, 1, 18, 2), (69, 1, 20, 1), (74, 1, 19, 1), (77, 1, 21, 3), (83, 1, 22, 3)] ++ [(88, 0, 42, 1), (93, 1, 23, 4), (99, 1, 47, 0), (105, 1, 57, 3), (109, 1, 58, 3), (112, 1, 48, 0), (116, 1, 4, 1), (124, 0, 43, 1), (129, 1, 44, 2), (141, 1, 24, 2), (145, 1, 60, 1), (164, 1, 5, 1)] ++ [(170, 0, 11, 2), (182, 1, 46, 1), (185, 1, 45, 2), (191, 1, 54, 1), (194, 1, 9, 1), (205, 1, 49, 0), (208, 1, 50, 0), (211, 1, 52, 1), (214, 1, 51, 0), (222, 1, 53, 2), (225, 1, 15, 1), (228, 1, 55, 1)] ++ [(231, 1, 14, 2), (241, 1, 25, 3), (245, 1, 6, 1), (248, 1, 56, 1), (251, 1, 7, 2), (254, 1, 8, 2), (258, 1, 59, 2), (261, 1, 62, 3), (264, 1, 66, 2), (267, 1, 61, 2), (273, 1, 63, 2), (276, 1, 64, 2)] ++ [(279, 1, 65, 4)] : List (Nat × Nat × Nat × Nat)).all _ = true
  simp only [List.all_append, Bool.and_eq_true]
  exact ⟨⟨⟨⟨xM4_0, xM4_1⟩, xM4_2⟩, xM4_3⟩, xM4_4⟩
end
section
set_option maxRecDepth 100000 in
theorem xM5_0 : ([(1, 9, 0, 0), (115, 1, 69, 1), (119, 0, 70, 2), (126, 1, 73, 1), (145, 1, 76, 1), (148, 1, 81, 2), (151, 1, 82, 2), (155, 0, 84, 1), (158, 1, 77, 1), (161, 1, 83, 2), (167, 1, 86, 2), (170, 1, 78, 2)] : List (Nat × Nat × Nat × Nat)).all (xGMb "CaseDeskModel") = true := by decide +kernel
set_option maxRecDepth 100000 in
theorem xM5_1 : ([(173, 1, 79, 1), (176, 1, 80, 1), (179, 1, 85, 2), (182, 1, 87, 2), (185, 1, 89, 2), (188, 1, 91, 1), (191, 1, 90, 2), (195, 1, 92, 1), (198, 1, 88, 2), (201, 1, 93, 0), (205, 1, 94, 0), (208, 1, 96, 1)] : List (Nat × Nat × Nat × Nat)).all (xGMb "CaseDeskModel") = true := by decide +kernel
set_option maxRecDepth 100000 in
theorem xM5_2 : ([(212, 1, 95, 0), (221, 1, 97, 0), (224, 1, 99, 0), (227, 1, 98, 0), (230, 1, 100, 1), (233, 1, 102, 2), (236, 1, 103, 2), (240, 1, 106, 1)] : List (Nat × Nat × Nat × Nat)).all (xGMb "CaseDeskModel") = true := by decide +kernel
set_option maxRecDepth 100000 in
theorem xM5_ok : xM5.all (xGMb "CaseDeskModel") = true := by
  show ([(1, 9, 0, 0), (115, 1, 69, 1), (119, 0, 70, 2), (126, 1, 73, 1), (145, 1, 76, 1), (148, 1, 81, 2), (151, 1, 82, 2), (155, 0, 84, 1), (158, 1, 77, 1), (161, 1, 83, 2), (167, 1, 86, 2), (170, 1, 78, 2)] ++ [(173, 1, 79, 1), (176, 1, 80, 1), (179, 1, 85, 2), (182, 1, 87, 2), (185, 1, 89, 2), (188, 1, 91, 1), (191, 1, 90, 2), (195, 1, 92, 1), (198, 1, 88, 2), (201, 1, 93, 0), (205, 1, 94, 0), (208, 1, 96, 1)] ++ [(212, 1, 95, 0), (221, 1, 97, 0), (224, 1, 99, 0), (227, 1, 98, 0), (230, 1, 100, 1), (233, 1, 102, 2), (236, 1, 103, 2), (240, 1, 106, 1)] : List (Nat × Nat × Nat × Nat)).all _ = true
  simp only [List.all_append, Bool.and_eq_true]
  exact ⟨⟨xM5_0, xM5_1⟩, xM5_2⟩
end
section
/-! new, throws, catches -/
set_option maxRecDepth 100000 in
theorem xn_0_8 {L mi : Nat} {xs : Nat → Int32} (ho : (xyN mi).cls = "CaseDeskLaw") : xj_GN (xX L xs) xyN xcm xcl mi 8 2 [.null, .null, .null, .int 0, .int 0] := by
  refine ⟨"CaseDesk", xT2, 5, xt2, [.null, .null, .null, .int 0, .int 0], rfl, xcl_2a, xcl_2b, ?_, ?_, ?_, rfl, ?_, by decide +kernel⟩
  · rw [ho]; decide +kernel
  · decide +kernel
  · decide +kernel
  · intro ad
    simp only [List.mapIdx_cons, List.mapIdx_nil, xj_fv, xj_cv]
set_option maxRecDepth 100000 in
theorem xn_0_44 {L mi : Nat} {xs : Nat → Int32} (ho : (xyN mi).cls = "CaseDeskLaw") : xj_GN (xX L xs) xyN xcm xcl mi 44 3 [.int 0, .int 0, .null, .null, .null, .int 0, .null, .null, .null, .null, .null, .null, .null, .null, .null, .int 0, .int 0, .int 0, .null, .null, .null, .null, .null, .null, .int 0, .null, .null, .int 0, .null, .null, .null, .null, .null, .null, .int 0, .null, .null, .int 0, .int 0, .int 0, .null, .null, .null] := by
  refine ⟨"CaseDeskModel", xT3, 43, xt3, [.int 0, .int 0, .null, .null, .null, .int 0, .null, .null, .null, .null, .null, .null, .null, .null, .null, .int 0, .int 0, .int 0, .null, .null, .null, .null, .null, .null, .int 0, .null, .null, .int 0, .null, .null, .null, .null, .null, .null, .int 0, .null, .null, .int 0, .int 0, .int 0, .null, .null, .null], rfl, xcl_3a, xcl_3b, ?_, ?_, ?_, rfl, ?_, by decide +kernel⟩
  · rw [ho]; decide +kernel
  · decide +kernel
  · decide +kernel
  · intro ad
    simp only [List.mapIdx_cons, List.mapIdx_nil, xj_fv, xj_cv]
set_option maxRecDepth 100000 in
theorem xn_4_7 {L mi : Nat} {xs : Nat → Int32} (ho : (xyN mi).cls = "CaseDesk") : xj_GN (xX L xs) xyN xcm xcl mi 7 1 [.int 0, .null, .null, .null, .null, .int 0, .null, .null, .null, .null, .null, .null, .null, .null] := by
  refine ⟨"CaseDesk$Plan", xT1, 14, xt1, [.int 0, .null, .null, .null, .null, .int 0, .null, .null, .null, .null, .null, .null, .null, .null], rfl, xcl_1a, xcl_1b, ?_, ?_, ?_, rfl, ?_, by decide +kernel⟩
  · rw [ho]; decide +kernel
  · decide +kernel
  · decide +kernel
  · intro ad
    simp only [List.mapIdx_cons, List.mapIdx_nil, xj_fv, xj_cv]
set_option maxRecDepth 100000 in
theorem xn_4_16 {L mi : Nat} {xs : Nat → Int32} (ho : (xyN mi).cls = "CaseDesk") : xj_GN (xX L xs) xyN xcm xcl mi 16 0 [.int 0, .int 0, .null, .null, .null, .null, .null, .null, .int 0, .null, .null] := by
  refine ⟨"CaseDesk$Life", xT0, 11, xt0, [.int 0, .int 0, .null, .null, .null, .null, .null, .null, .int 0, .null, .null], rfl, xcl_0a, xcl_0b, ?_, ?_, ?_, rfl, ?_, by decide +kernel⟩
  · rw [ho]; decide +kernel
  · decide +kernel
  · decide +kernel
  · intro ad
    simp only [List.mapIdx_cons, List.mapIdx_nil, xj_fv, xj_cv]
set_option maxRecDepth 100000 in
theorem xg_28_22 : xj_GT xyN xbt xhh xcm xwk xsl xex 28 22 0 := by
  refine ⟨34, 36, 38, 7, ⟨#[42, 43, 183, 0, 7, 177]⟩, "the case has begun, or there are 12 items", ?_, ?_, ?_, ?_, rfl, ?_, ?_, ?_, ?_, ?_, ?_, ?_, ?_, ?_, ?_, ?_, ?_, ?_⟩ <;> decide +kernel
set_option maxRecDepth 100000 in
theorem xg_28_85 : xj_GT xyN xbt xhh xcm xwk xsl xex 28 85 1 := by
  refine ⟨45, 47, 49, 7, ⟨#[42, 43, 183, 0, 7, 177]⟩, "no such kind, stage or flags", ?_, ?_, ?_, ?_, rfl, ?_, ?_, ?_, ?_, ?_, ?_, ?_, ?_, ?_, ?_, ?_, ?_, ?_⟩ <;> decide +kernel
set_option maxRecDepth 100000 in
theorem xg_29_22 : xj_GT xyN xbt xhh xcm xwk xsl xex 29 22 0 := by
  refine ⟨34, 57, 38, 7, ⟨#[42, 43, 183, 0, 7, 177]⟩, "the case has begun, or there are 16 sentries", ?_, ?_, ?_, ?_, rfl, ?_, ?_, ?_, ?_, ?_, ?_, ?_, ?_, ?_, ?_, ?_, ?_, ?_⟩ <;> decide +kernel
set_option maxRecDepth 100000 in
theorem xg_29_44 : xj_GT xyN xbt xhh xcm xwk xsl xex 29 44 1 := by
  refine ⟨45, 63, 49, 7, ⟨#[42, 43, 183, 0, 7, 177]⟩, "no item that can have such a sentry", ?_, ?_, ?_, ?_, rfl, ?_, ?_, ?_, ?_, ?_, ?_, ?_, ?_, ?_, ?_, ?_, ?_, ?_⟩ <;> decide +kernel
set_option maxRecDepth 100000 in
theorem xg_30_21 : xj_GT xyN xbt xhh xcm xwk xsl xex 30 21 0 := by
  refine ⟨34, 72, 38, 7, ⟨#[42, 43, 183, 0, 7, 177]⟩, "the case has begun, or the sentry has two on-parts", ?_, ?_, ?_, ?_, rfl, ?_, ?_, ?_, ?_, ?_, ?_, ?_, ?_, ?_, ?_, ?_, ?_, ?_⟩ <;> decide +kernel
set_option maxRecDepth 100000 in
theorem xg_30_55 : xj_GT xyN xbt xhh xcm xwk xsl xex 30 55 1 := by
  refine ⟨45, 81, 49, 7, ⟨#[42, 43, 183, 0, 7, 177]⟩, "no such sentry, source or move", ?_, ?_, ?_, ?_, rfl, ?_, ?_, ?_, ?_, ?_, ?_, ?_, ?_, ?_, ?_, ?_, ?_, ?_⟩ <;> decide +kernel
set_option maxRecDepth 100000 in
theorem xg_31_10 : xj_GT xyN xbt xhh xcm xwk xsl xex 31 10 0 := by
  refine ⟨34, 86, 38, 7, ⟨#[42, 43, 183, 0, 7, 177]⟩, "the case has begun", ?_, ?_, ?_, ?_, rfl, ?_, ?_, ?_, ?_, ?_, ?_, ?_, ?_, ?_, ?_, ?_, ?_, ?_⟩ <;> decide +kernel
set_option maxRecDepth 100000 in
theorem xg_31_47 : xj_GT xyN xbt xhh xcm xwk xsl xex 31 47 1 := by
  refine ⟨45, 91, 49, 7, ⟨#[42, 43, 183, 0, 7, 177]⟩, "no such sentry, variable or sign", ?_, ?_, ?_, ?_, rfl, ?_, ?_, ?_, ?_, ?_, ?_, ?_, ?_, ?_, ?_, ?_, ?_, ?_⟩ <;> decide +kernel
set_option maxRecDepth 100000 in
theorem xg_32_10 : xj_GT xyN xbt xhh xcm xwk xsl xex 32 10 0 := by
  refine ⟨34, 86, 38, 7, ⟨#[42, 43, 183, 0, 7, 177]⟩, "the case has begun", ?_, ?_, ?_, ?_, rfl, ?_, ?_, ?_, ?_, ?_, ?_, ?_, ?_, ?_, ?_, ?_, ?_, ?_⟩ <;> decide +kernel
set_option maxRecDepth 100000 in
theorem xg_32_31 : xj_GT xyN xbt xhh xcm xwk xsl xex 32 31 1 := by
  refine ⟨45, 97, 49, 7, ⟨#[42, 43, 183, 0, 7, 177]⟩, "no such bound", ?_, ?_, ?_, ?_, rfl, ?_, ?_, ?_, ?_, ?_, ?_, ?_, ?_, ?_, ?_, ?_, ?_, ?_⟩ <;> decide +kernel
set_option maxRecDepth 100000 in
theorem xg_33_11 : xj_GT xyN xbt xhh xcm xwk xsl xex 33 11 3 := by
  refine ⟨119, 121, 123, 13, ⟨#[42, 43, 183, 0, 13, 177]⟩, "no such instance", ?_, ?_, ?_, ?_, rfl, ?_, ?_, ?_, ?_, ?_, ?_, ?_, ?_, ?_, ?_, ?_, ?_, ?_⟩ <;> decide +kernel
set_option maxRecDepth 100000 in
theorem xg_33_28 : xj_GT xyN xbt xhh xcm xwk xsl xex 33 28 1 := by
  refine ⟨45, 127, 49, 7, ⟨#[42, 43, 183, 0, 7, 177]⟩, "no move for a command", ?_, ?_, ?_, ?_, rfl, ?_, ?_, ?_, ?_, ?_, ?_, ?_, ?_, ?_, ?_, ?_, ?_, ?_⟩ <;> decide +kernel
set_option maxRecDepth 100000 in
theorem xg_33_47 : xj_GT xyN xbt xhh xcm xwk xsl xex 33 47 0 := by
  refine ⟨34, 133, 38, 7, ⟨#[42, 43, 183, 0, 7, 177]⟩, "the instance can't make this move now", ?_, ?_, ?_, ?_, rfl, ?_, ?_, ?_, ?_, ?_, ?_, ?_, ?_, ?_, ?_, ?_, ?_, ?_⟩ <;> decide +kernel
set_option maxRecDepth 100000 in
theorem xg_34_7 : xj_GT xyN xbt xhh xcm xwk xsl xex 34 7 1 := by
  refine ⟨45, 135, 49, 7, ⟨#[42, 43, 183, 0, 7, 177]⟩, "no such variable", ?_, ?_, ?_, ?_, rfl, ?_, ?_, ?_, ?_, ?_, ?_, ?_, ?_, ?_, ?_, ?_, ?_, ?_⟩ <;> decide +kernel
set_option maxRecDepth 100000 in
theorem xg_48_96 : xj_GT xyN xbt xhh xcm xwk xsl xex 48 96 2 := by
  refine ⟨217, 219, 221, 7, ⟨#[42, 43, 183, 0, 7, 177]⟩, "the command was cut off", ?_, ?_, ?_, ?_, rfl, ?_, ?_, ?_, ?_, ?_, ?_, ?_, ?_, ?_, ?_, ?_, ?_, ?_⟩ <;> decide +kernel
theorem xh_114_0 : xj_GH xyN xhh xcm xwk xnc (xex 0).1 114 7 15 := by
  refine ⟨[], ⟨0, 12, 15, 13⟩, [⟨0, 12, 19, 15⟩], "java/lang/IllegalStateException", rfl, rfl, by decide +kernel, by decide +kernel, by decide +kernel, by decide +kernel, ?_⟩
  intro z hz; cases hz
theorem xh_114_1 : xj_GH xyN xhh xcm xwk xnc (xex 1).1 114 7 19 := by
  refine ⟨[⟨0, 12, 15, 13⟩], ⟨0, 12, 19, 15⟩, [], "java/lang/IllegalArgumentException", rfl, rfl, by decide +kernel, by decide +kernel, by decide +kernel, by decide +kernel, ?_⟩
  intro z hz
  simp only [List.mem_cons, List.not_mem_nil, or_false] at hz
  rcases hz with rfl
  · exact Or.inr ⟨by decide +kernel, "java/lang/IllegalStateException", by decide +kernel, by decide +kernel⟩
theorem xh_115_0 : xj_GH xyN xhh xcm xwk xnc (xex 0).1 115 5 13 := by
  refine ⟨[], ⟨0, 10, 13, 13⟩, [⟨0, 10, 17, 15⟩], "java/lang/IllegalStateException", rfl, rfl, by decide +kernel, by decide +kernel, by decide +kernel, by decide +kernel, ?_⟩
  intro z hz; cases hz
theorem xh_115_1 : xj_GH xyN xhh xcm xwk xnc (xex 1).1 115 5 17 := by
  refine ⟨[⟨0, 10, 13, 13⟩], ⟨0, 10, 17, 15⟩, [], "java/lang/IllegalArgumentException", rfl, rfl, by decide +kernel, by decide +kernel, by decide +kernel, by decide +kernel, ?_⟩
  intro z hz
  simp only [List.mem_cons, List.not_mem_nil, or_false] at hz
  rcases hz with rfl
  · exact Or.inr ⟨by decide +kernel, "java/lang/IllegalStateException", by decide +kernel, by decide +kernel⟩
theorem xh_116_0 : xj_GH xyN xhh xcm xwk xnc (xex 0).1 116 7 15 := by
  refine ⟨[], ⟨0, 12, 15, 13⟩, [⟨0, 12, 19, 15⟩], "java/lang/IllegalStateException", rfl, rfl, by decide +kernel, by decide +kernel, by decide +kernel, by decide +kernel, ?_⟩
  intro z hz; cases hz
theorem xh_116_1 : xj_GH xyN xhh xcm xwk xnc (xex 1).1 116 7 19 := by
  refine ⟨[⟨0, 12, 15, 13⟩], ⟨0, 12, 19, 15⟩, [], "java/lang/IllegalArgumentException", rfl, rfl, by decide +kernel, by decide +kernel, by decide +kernel, by decide +kernel, ?_⟩
  intro z hz
  simp only [List.mem_cons, List.not_mem_nil, or_false] at hz
  rcases hz with rfl
  · exact Or.inr ⟨by decide +kernel, "java/lang/IllegalStateException", by decide +kernel, by decide +kernel⟩
theorem xh_117_0 : xj_GH xyN xhh xcm xwk xnc (xex 0).1 117 6 12 := by
  refine ⟨[], ⟨0, 9, 12, 13⟩, [⟨0, 9, 16, 15⟩], "java/lang/IllegalStateException", rfl, rfl, by decide +kernel, by decide +kernel, by decide +kernel, by decide +kernel, ?_⟩
  intro z hz; cases hz
theorem xh_117_1 : xj_GH xyN xhh xcm xwk xnc (xex 1).1 117 6 16 := by
  refine ⟨[⟨0, 9, 12, 13⟩], ⟨0, 9, 16, 15⟩, [], "java/lang/IllegalArgumentException", rfl, rfl, by decide +kernel, by decide +kernel, by decide +kernel, by decide +kernel, ?_⟩
  intro z hz
  simp only [List.mem_cons, List.not_mem_nil, or_false] at hz
  rcases hz with rfl
  · exact Or.inr ⟨by decide +kernel, "java/lang/IllegalStateException", by decide +kernel, by decide +kernel⟩
theorem xh_118_0 : xj_GH xyN xhh xcm xwk xnc (xex 0).1 118 4 12 := by
  refine ⟨[], ⟨0, 9, 12, 13⟩, [⟨0, 9, 15, 15⟩, ⟨0, 9, 18, 32⟩], "java/lang/IllegalStateException", rfl, rfl, by decide +kernel, by decide +kernel, by decide +kernel, by decide +kernel, ?_⟩
  intro z hz; cases hz
theorem xh_118_1 : xj_GH xyN xhh xcm xwk xnc (xex 1).1 118 4 15 := by
  refine ⟨[⟨0, 9, 12, 13⟩], ⟨0, 9, 15, 15⟩, [⟨0, 9, 18, 32⟩], "java/lang/IllegalArgumentException", rfl, rfl, by decide +kernel, by decide +kernel, by decide +kernel, by decide +kernel, ?_⟩
  intro z hz
  simp only [List.mem_cons, List.not_mem_nil, or_false] at hz
  rcases hz with rfl
  · exact Or.inr ⟨by decide +kernel, "java/lang/IllegalStateException", by decide +kernel, by decide +kernel⟩
theorem xh_118_2 : xj_GH xyN xhh xcm xwk xnc (xex 2).1 118 4 18 := by
  refine ⟨[⟨0, 9, 12, 13⟩, ⟨0, 9, 15, 15⟩], ⟨0, 9, 18, 32⟩, [], "java/lang/UnsupportedOperationException", rfl, rfl, by decide +kernel, by decide +kernel, by decide +kernel, by decide +kernel, ?_⟩
  intro z hz
  simp only [List.mem_cons, List.not_mem_nil, or_false] at hz
  rcases hz with rfl | rfl
  · exact Or.inr ⟨by decide +kernel, "java/lang/IllegalStateException", by decide +kernel, by decide +kernel⟩
  · exact Or.inr ⟨by decide +kernel, "java/lang/IllegalArgumentException", by decide +kernel, by decide +kernel⟩
theorem xh_119_0 : xj_GH xyN xhh xcm xwk xnc (xex 0).1 119 5 21 := by
  refine ⟨[⟨0, 10, 13, 38⟩, ⟨0, 10, 17, 15⟩], ⟨0, 10, 21, 13⟩, [⟨0, 10, 25, 32⟩], "java/lang/IllegalStateException", rfl, rfl, by decide +kernel, by decide +kernel, by decide +kernel, by decide +kernel, ?_⟩
  intro z hz
  simp only [List.mem_cons, List.not_mem_nil, or_false] at hz
  rcases hz with rfl | rfl
  · exact Or.inr ⟨by decide +kernel, "java/util/NoSuchElementException", by decide +kernel, by decide +kernel⟩
  · exact Or.inr ⟨by decide +kernel, "java/lang/IllegalArgumentException", by decide +kernel, by decide +kernel⟩
theorem xh_119_1 : xj_GH xyN xhh xcm xwk xnc (xex 1).1 119 5 17 := by
  refine ⟨[⟨0, 10, 13, 38⟩], ⟨0, 10, 17, 15⟩, [⟨0, 10, 21, 13⟩, ⟨0, 10, 25, 32⟩], "java/lang/IllegalArgumentException", rfl, rfl, by decide +kernel, by decide +kernel, by decide +kernel, by decide +kernel, ?_⟩
  intro z hz
  simp only [List.mem_cons, List.not_mem_nil, or_false] at hz
  rcases hz with rfl
  · exact Or.inr ⟨by decide +kernel, "java/util/NoSuchElementException", by decide +kernel, by decide +kernel⟩
theorem xh_119_2 : xj_GH xyN xhh xcm xwk xnc (xex 2).1 119 5 25 := by
  refine ⟨[⟨0, 10, 13, 38⟩, ⟨0, 10, 17, 15⟩, ⟨0, 10, 21, 13⟩], ⟨0, 10, 25, 32⟩, [], "java/lang/UnsupportedOperationException", rfl, rfl, by decide +kernel, by decide +kernel, by decide +kernel, by decide +kernel, ?_⟩
  intro z hz
  simp only [List.mem_cons, List.not_mem_nil, or_false] at hz
  rcases hz with rfl | rfl | rfl
  · exact Or.inr ⟨by decide +kernel, "java/util/NoSuchElementException", by decide +kernel, by decide +kernel⟩
  · exact Or.inr ⟨by decide +kernel, "java/lang/IllegalArgumentException", by decide +kernel, by decide +kernel⟩
  · exact Or.inr ⟨by decide +kernel, "java/lang/IllegalStateException", by decide +kernel, by decide +kernel⟩
theorem xh_119_3 : xj_GH xyN xhh xcm xwk xnc (xex 3).1 119 5 13 := by
  refine ⟨[], ⟨0, 10, 13, 38⟩, [⟨0, 10, 17, 15⟩, ⟨0, 10, 21, 13⟩, ⟨0, 10, 25, 32⟩], "java/util/NoSuchElementException", rfl, rfl, by decide +kernel, by decide +kernel, by decide +kernel, by decide +kernel, ?_⟩
  intro z hz; cases hz
theorem xh_120_1 : xj_GH xyN xhh xcm xwk xnc (xex 1).1 120 5 13 := by
  refine ⟨[], ⟨0, 10, 13, 15⟩, [⟨0, 10, 17, 32⟩], "java/lang/IllegalArgumentException", rfl, rfl, by decide +kernel, by decide +kernel, by decide +kernel, by decide +kernel, ?_⟩
  intro z hz; cases hz
theorem xh_120_2 : xj_GH xyN xhh xcm xwk xnc (xex 2).1 120 5 17 := by
  refine ⟨[⟨0, 10, 13, 15⟩], ⟨0, 10, 17, 32⟩, [], "java/lang/UnsupportedOperationException", rfl, rfl, by decide +kernel, by decide +kernel, by decide +kernel, by decide +kernel, ?_⟩
  intro z hz
  simp only [List.mem_cons, List.not_mem_nil, or_false] at hz
  rcases hz with rfl
  · exact Or.inr ⟨by decide +kernel, "java/lang/IllegalArgumentException", by decide +kernel, by decide +kernel⟩
end
section
/-! all that the tables owe, paid -/
theorem xgc : ∀ mi pc i nx, xcd mi pc = some (i, nx) → xj_dec (xbt mi) (xmx mi) pc i nx := by
  intro mi pc i nx h
  unfold xcd at h
  rcases xj_blt h with ⟨-, h⟩ | ⟨-, h⟩
  · rcases xj_blt h with ⟨-, h⟩ | ⟨-, h⟩
    · rcases xj_blt h with ⟨-, h⟩ | ⟨-, h⟩
      · rcases xj_blt h with ⟨-, h⟩ | ⟨-, h⟩
        · rcases xj_blt h with ⟨-, h⟩ | ⟨-, h⟩
          · rcases xj_blt h with ⟨-, h⟩ | ⟨-, h⟩
            · obtain ⟨rfl, h⟩ := xj_beq h
              exact xd_0 h
            · rcases xj_blt h with ⟨-, h⟩ | ⟨-, h⟩
              · obtain ⟨rfl, h⟩ := xj_beq h
                exact xd_1 h
              · obtain ⟨rfl, h⟩ := xj_beq h
                exact xd_2 h
          · rcases xj_blt h with ⟨-, h⟩ | ⟨-, h⟩
            · rcases xj_blt h with ⟨-, h⟩ | ⟨-, h⟩
              · obtain ⟨rfl, h⟩ := xj_beq h
                exact xd_3 h
              · obtain ⟨rfl, h⟩ := xj_beq h
                exact xd_4 h
            · rcases xj_blt h with ⟨-, h⟩ | ⟨-, h⟩
              · obtain ⟨rfl, h⟩ := xj_beq h
                exact xd_5 h
              · obtain ⟨rfl, h⟩ := xj_beq h
                exact xd_6 h
        · rcases xj_blt h with ⟨-, h⟩ | ⟨-, h⟩
          · rcases xj_blt h with ⟨-, h⟩ | ⟨-, h⟩
            · rcases xj_blt h with ⟨-, h⟩ | ⟨-, h⟩
              · obtain ⟨rfl, h⟩ := xj_beq h
                exact xd_7 h
              · obtain ⟨rfl, h⟩ := xj_beq h
                exact xd_8 h
            · rcases xj_blt h with ⟨-, h⟩ | ⟨-, h⟩
              · obtain ⟨rfl, h⟩ := xj_beq h
                exact xd_9 h
              · obtain ⟨rfl, h⟩ := xj_beq h
                exact xd_10 h
          · rcases xj_blt h with ⟨-, h⟩ | ⟨-, h⟩
            · rcases xj_blt h with ⟨-, h⟩ | ⟨-, h⟩
              · obtain ⟨rfl, h⟩ := xj_beq h
                exact xd_11 h
              · obtain ⟨rfl, h⟩ := xj_beq h
                exact xd_12 h
            · rcases xj_blt h with ⟨-, h⟩ | ⟨-, h⟩
              · obtain ⟨rfl, h⟩ := xj_beq h
                exact xd_13 h
              · obtain ⟨rfl, h⟩ := xj_beq h
                exact xd_14 h
      · rcases xj_blt h with ⟨-, h⟩ | ⟨-, h⟩
        · rcases xj_blt h with ⟨-, h⟩ | ⟨-, h⟩
          · rcases xj_blt h with ⟨-, h⟩ | ⟨-, h⟩
            · obtain ⟨rfl, h⟩ := xj_beq h
              exact xd_15 h
            · rcases xj_blt h with ⟨-, h⟩ | ⟨-, h⟩
              · obtain ⟨rfl, h⟩ := xj_beq h
                exact xd_16 h
              · obtain ⟨rfl, h⟩ := xj_beq h
                exact xd_17 h
          · rcases xj_blt h with ⟨-, h⟩ | ⟨-, h⟩
            · rcases xj_blt h with ⟨-, h⟩ | ⟨-, h⟩
              · obtain ⟨rfl, h⟩ := xj_beq h
                exact xd_18 h
              · obtain ⟨rfl, h⟩ := xj_beq h
                exact xd_19 h
            · rcases xj_blt h with ⟨-, h⟩ | ⟨-, h⟩
              · obtain ⟨rfl, h⟩ := xj_beq h
                exact xd_20 h
              · obtain ⟨rfl, h⟩ := xj_beq h
                exact xd_21 h
        · rcases xj_blt h with ⟨-, h⟩ | ⟨-, h⟩
          · rcases xj_blt h with ⟨-, h⟩ | ⟨-, h⟩
            · rcases xj_blt h with ⟨-, h⟩ | ⟨-, h⟩
              · obtain ⟨rfl, h⟩ := xj_beq h
                exact xd_22 h
              · obtain ⟨rfl, h⟩ := xj_beq h
                exact xd_23 h
            · rcases xj_blt h with ⟨-, h⟩ | ⟨-, h⟩
              · obtain ⟨rfl, h⟩ := xj_beq h
                exact xd_24 h
              · obtain ⟨rfl, h⟩ := xj_beq h
                exact xd_25 h
          · rcases xj_blt h with ⟨-, h⟩ | ⟨-, h⟩
            · rcases xj_blt h with ⟨-, h⟩ | ⟨-, h⟩
              · obtain ⟨rfl, h⟩ := xj_beq h
                exact xd_26 h
              · obtain ⟨rfl, h⟩ := xj_beq h
                exact xd_27 h
            · rcases xj_blt h with ⟨-, h⟩ | ⟨-, h⟩
              · obtain ⟨rfl, h⟩ := xj_beq h
                exact xd_28 h
              · obtain ⟨rfl, h⟩ := xj_beq h
                exact xd_29 h
    · rcases xj_blt h with ⟨-, h⟩ | ⟨-, h⟩
      · rcases xj_blt h with ⟨-, h⟩ | ⟨-, h⟩
        · rcases xj_blt h with ⟨-, h⟩ | ⟨-, h⟩
          · rcases xj_blt h with ⟨-, h⟩ | ⟨-, h⟩
            · obtain ⟨rfl, h⟩ := xj_beq h
              exact xd_30 h
            · rcases xj_blt h with ⟨-, h⟩ | ⟨-, h⟩
              · obtain ⟨rfl, h⟩ := xj_beq h
                exact xd_31 h
              · obtain ⟨rfl, h⟩ := xj_beq h
                exact xd_32 h
          · rcases xj_blt h with ⟨-, h⟩ | ⟨-, h⟩
            · rcases xj_blt h with ⟨-, h⟩ | ⟨-, h⟩
              · obtain ⟨rfl, h⟩ := xj_beq h
                exact xd_33 h
              · obtain ⟨rfl, h⟩ := xj_beq h
                exact xd_34 h
            · rcases xj_blt h with ⟨-, h⟩ | ⟨-, h⟩
              · obtain ⟨rfl, h⟩ := xj_beq h
                exact xd_35 h
              · obtain ⟨rfl, h⟩ := xj_beq h
                exact xd_36 h
        · rcases xj_blt h with ⟨-, h⟩ | ⟨-, h⟩
          · rcases xj_blt h with ⟨-, h⟩ | ⟨-, h⟩
            · rcases xj_blt h with ⟨-, h⟩ | ⟨-, h⟩
              · obtain ⟨rfl, h⟩ := xj_beq h
                exact xd_37 h
              · obtain ⟨rfl, h⟩ := xj_beq h
                exact xd_38 h
            · rcases xj_blt h with ⟨-, h⟩ | ⟨-, h⟩
              · obtain ⟨rfl, h⟩ := xj_beq h
                exact xd_39 h
              · obtain ⟨rfl, h⟩ := xj_beq h
                exact xd_40 h
          · rcases xj_blt h with ⟨-, h⟩ | ⟨-, h⟩
            · rcases xj_blt h with ⟨-, h⟩ | ⟨-, h⟩
              · obtain ⟨rfl, h⟩ := xj_beq h
                exact xd_41 h
              · obtain ⟨rfl, h⟩ := xj_beq h
                exact xd_42 h
            · rcases xj_blt h with ⟨-, h⟩ | ⟨-, h⟩
              · obtain ⟨rfl, h⟩ := xj_beq h
                exact xd_43 h
              · obtain ⟨rfl, h⟩ := xj_beq h
                exact xd_44 h
      · rcases xj_blt h with ⟨-, h⟩ | ⟨-, h⟩
        · rcases xj_blt h with ⟨-, h⟩ | ⟨-, h⟩
          · rcases xj_blt h with ⟨-, h⟩ | ⟨-, h⟩
            · obtain ⟨rfl, h⟩ := xj_beq h
              exact xd_45 h
            · rcases xj_blt h with ⟨-, h⟩ | ⟨-, h⟩
              · obtain ⟨rfl, h⟩ := xj_beq h
                exact xd_46 h
              · obtain ⟨rfl, h⟩ := xj_beq h
                exact xd_47 h
          · rcases xj_blt h with ⟨-, h⟩ | ⟨-, h⟩
            · rcases xj_blt h with ⟨-, h⟩ | ⟨-, h⟩
              · obtain ⟨rfl, h⟩ := xj_beq h
                exact xd_48 h
              · obtain ⟨rfl, h⟩ := xj_beq h
                exact xd_49 h
            · rcases xj_blt h with ⟨-, h⟩ | ⟨-, h⟩
              · obtain ⟨rfl, h⟩ := xj_beq h
                exact xd_50 h
              · obtain ⟨rfl, h⟩ := xj_beq h
                exact xd_51 h
        · rcases xj_blt h with ⟨-, h⟩ | ⟨-, h⟩
          · rcases xj_blt h with ⟨-, h⟩ | ⟨-, h⟩
            · rcases xj_blt h with ⟨-, h⟩ | ⟨-, h⟩
              · obtain ⟨rfl, h⟩ := xj_beq h
                exact xd_52 h
              · obtain ⟨rfl, h⟩ := xj_beq h
                exact xd_53 h
            · rcases xj_blt h with ⟨-, h⟩ | ⟨-, h⟩
              · obtain ⟨rfl, h⟩ := xj_beq h
                exact xd_54 h
              · obtain ⟨rfl, h⟩ := xj_beq h
                exact xd_55 h
          · rcases xj_blt h with ⟨-, h⟩ | ⟨-, h⟩
            · rcases xj_blt h with ⟨-, h⟩ | ⟨-, h⟩
              · obtain ⟨rfl, h⟩ := xj_beq h
                exact xd_56 h
              · obtain ⟨rfl, h⟩ := xj_beq h
                exact xd_57 h
            · rcases xj_blt h with ⟨-, h⟩ | ⟨-, h⟩
              · obtain ⟨rfl, h⟩ := xj_beq h
                exact xd_58 h
              · obtain ⟨rfl, h⟩ := xj_beq h
                exact xd_59 h
  · rcases xj_blt h with ⟨-, h⟩ | ⟨-, h⟩
    · rcases xj_blt h with ⟨-, h⟩ | ⟨-, h⟩
      · rcases xj_blt h with ⟨-, h⟩ | ⟨-, h⟩
        · rcases xj_blt h with ⟨-, h⟩ | ⟨-, h⟩
          · rcases xj_blt h with ⟨-, h⟩ | ⟨-, h⟩
            · obtain ⟨rfl, h⟩ := xj_beq h
              exact xd_60 h
            · rcases xj_blt h with ⟨-, h⟩ | ⟨-, h⟩
              · obtain ⟨rfl, h⟩ := xj_beq h
                exact xd_61 h
              · obtain ⟨rfl, h⟩ := xj_beq h
                exact xd_62 h
          · rcases xj_blt h with ⟨-, h⟩ | ⟨-, h⟩
            · rcases xj_blt h with ⟨-, h⟩ | ⟨-, h⟩
              · obtain ⟨rfl, h⟩ := xj_beq h
                exact xd_63 h
              · obtain ⟨rfl, h⟩ := xj_beq h
                exact xd_64 h
            · rcases xj_blt h with ⟨-, h⟩ | ⟨-, h⟩
              · obtain ⟨rfl, h⟩ := xj_beq h
                exact xd_65 h
              · obtain ⟨rfl, h⟩ := xj_beq h
                exact xd_66 h
        · rcases xj_blt h with ⟨-, h⟩ | ⟨-, h⟩
          · rcases xj_blt h with ⟨-, h⟩ | ⟨-, h⟩
            · rcases xj_blt h with ⟨-, h⟩ | ⟨-, h⟩
              · obtain ⟨rfl, h⟩ := xj_beq h
                exact xd_67 h
              · obtain ⟨rfl, h⟩ := xj_beq h
                exact xd_68 h
            · rcases xj_blt h with ⟨-, h⟩ | ⟨-, h⟩
              · obtain ⟨rfl, h⟩ := xj_beq h
                exact xd_69 h
              · obtain ⟨rfl, h⟩ := xj_beq h
                exact xd_70 h
          · rcases xj_blt h with ⟨-, h⟩ | ⟨-, h⟩
            · rcases xj_blt h with ⟨-, h⟩ | ⟨-, h⟩
              · obtain ⟨rfl, h⟩ := xj_beq h
                exact xd_71 h
              · obtain ⟨rfl, h⟩ := xj_beq h
                exact xd_72 h
            · rcases xj_blt h with ⟨-, h⟩ | ⟨-, h⟩
              · obtain ⟨rfl, h⟩ := xj_beq h
                exact xd_73 h
              · obtain ⟨rfl, h⟩ := xj_beq h
                exact xd_74 h
      · rcases xj_blt h with ⟨-, h⟩ | ⟨-, h⟩
        · rcases xj_blt h with ⟨-, h⟩ | ⟨-, h⟩
          · rcases xj_blt h with ⟨-, h⟩ | ⟨-, h⟩
            · obtain ⟨rfl, h⟩ := xj_beq h
              exact xd_75 h
            · rcases xj_blt h with ⟨-, h⟩ | ⟨-, h⟩
              · obtain ⟨rfl, h⟩ := xj_beq h
                exact xd_76 h
              · obtain ⟨rfl, h⟩ := xj_beq h
                exact xd_77 h
          · rcases xj_blt h with ⟨-, h⟩ | ⟨-, h⟩
            · rcases xj_blt h with ⟨-, h⟩ | ⟨-, h⟩
              · obtain ⟨rfl, h⟩ := xj_beq h
                exact xd_78 h
              · obtain ⟨rfl, h⟩ := xj_beq h
                exact xd_79 h
            · rcases xj_blt h with ⟨-, h⟩ | ⟨-, h⟩
              · obtain ⟨rfl, h⟩ := xj_beq h
                exact xd_80 h
              · obtain ⟨rfl, h⟩ := xj_beq h
                exact xd_81 h
        · rcases xj_blt h with ⟨-, h⟩ | ⟨-, h⟩
          · rcases xj_blt h with ⟨-, h⟩ | ⟨-, h⟩
            · rcases xj_blt h with ⟨-, h⟩ | ⟨-, h⟩
              · obtain ⟨rfl, h⟩ := xj_beq h
                exact xd_82 h
              · obtain ⟨rfl, h⟩ := xj_beq h
                exact xd_83 h
            · rcases xj_blt h with ⟨-, h⟩ | ⟨-, h⟩
              · obtain ⟨rfl, h⟩ := xj_beq h
                exact xd_84 h
              · obtain ⟨rfl, h⟩ := xj_beq h
                exact xd_85 h
          · rcases xj_blt h with ⟨-, h⟩ | ⟨-, h⟩
            · rcases xj_blt h with ⟨-, h⟩ | ⟨-, h⟩
              · obtain ⟨rfl, h⟩ := xj_beq h
                exact xd_86 h
              · obtain ⟨rfl, h⟩ := xj_beq h
                exact xd_87 h
            · rcases xj_blt h with ⟨-, h⟩ | ⟨-, h⟩
              · obtain ⟨rfl, h⟩ := xj_beq h
                exact xd_88 h
              · obtain ⟨rfl, h⟩ := xj_beq h
                exact xd_89 h
    · rcases xj_blt h with ⟨-, h⟩ | ⟨-, h⟩
      · rcases xj_blt h with ⟨-, h⟩ | ⟨-, h⟩
        · rcases xj_blt h with ⟨-, h⟩ | ⟨-, h⟩
          · rcases xj_blt h with ⟨-, h⟩ | ⟨-, h⟩
            · obtain ⟨rfl, h⟩ := xj_beq h
              exact xd_90 h
            · rcases xj_blt h with ⟨-, h⟩ | ⟨-, h⟩
              · obtain ⟨rfl, h⟩ := xj_beq h
                exact xd_91 h
              · obtain ⟨rfl, h⟩ := xj_beq h
                exact xd_92 h
          · rcases xj_blt h with ⟨-, h⟩ | ⟨-, h⟩
            · rcases xj_blt h with ⟨-, h⟩ | ⟨-, h⟩
              · obtain ⟨rfl, h⟩ := xj_beq h
                exact xd_93 h
              · obtain ⟨rfl, h⟩ := xj_beq h
                exact xd_94 h
            · rcases xj_blt h with ⟨-, h⟩ | ⟨-, h⟩
              · obtain ⟨rfl, h⟩ := xj_beq h
                exact xd_95 h
              · obtain ⟨rfl, h⟩ := xj_beq h
                exact xd_96 h
        · rcases xj_blt h with ⟨-, h⟩ | ⟨-, h⟩
          · rcases xj_blt h with ⟨-, h⟩ | ⟨-, h⟩
            · rcases xj_blt h with ⟨-, h⟩ | ⟨-, h⟩
              · obtain ⟨rfl, h⟩ := xj_beq h
                exact xd_97 h
              · obtain ⟨rfl, h⟩ := xj_beq h
                exact xd_98 h
            · rcases xj_blt h with ⟨-, h⟩ | ⟨-, h⟩
              · obtain ⟨rfl, h⟩ := xj_beq h
                exact xd_99 h
              · obtain ⟨rfl, h⟩ := xj_beq h
                exact xd_100 h
          · rcases xj_blt h with ⟨-, h⟩ | ⟨-, h⟩
            · rcases xj_blt h with ⟨-, h⟩ | ⟨-, h⟩
              · obtain ⟨rfl, h⟩ := xj_beq h
                exact xd_101 h
              · obtain ⟨rfl, h⟩ := xj_beq h
                exact xd_102 h
            · rcases xj_blt h with ⟨-, h⟩ | ⟨-, h⟩
              · obtain ⟨rfl, h⟩ := xj_beq h
                exact xd_103 h
              · obtain ⟨rfl, h⟩ := xj_beq h
                exact xd_104 h
      · rcases xj_blt h with ⟨-, h⟩ | ⟨-, h⟩
        · rcases xj_blt h with ⟨-, h⟩ | ⟨-, h⟩
          · rcases xj_blt h with ⟨-, h⟩ | ⟨-, h⟩
            · rcases xj_blt h with ⟨-, h⟩ | ⟨-, h⟩
              · obtain ⟨rfl, h⟩ := xj_beq h
                exact xd_105 h
              · obtain ⟨rfl, h⟩ := xj_beq h
                exact xd_106 h
            · rcases xj_blt h with ⟨-, h⟩ | ⟨-, h⟩
              · obtain ⟨rfl, h⟩ := xj_beq h
                exact xd_107 h
              · obtain ⟨rfl, h⟩ := xj_beq h
                exact xd_108 h
          · rcases xj_blt h with ⟨-, h⟩ | ⟨-, h⟩
            · rcases xj_blt h with ⟨-, h⟩ | ⟨-, h⟩
              · obtain ⟨rfl, h⟩ := xj_beq h
                exact xd_109 h
              · obtain ⟨rfl, h⟩ := xj_beq h
                exact xd_110 h
            · rcases xj_blt h with ⟨-, h⟩ | ⟨-, h⟩
              · obtain ⟨rfl, h⟩ := xj_beq h
                exact xd_111 h
              · obtain ⟨rfl, h⟩ := xj_beq h
                exact xd_112 h
        · rcases xj_blt h with ⟨-, h⟩ | ⟨-, h⟩
          · rcases xj_blt h with ⟨-, h⟩ | ⟨-, h⟩
            · rcases xj_blt h with ⟨-, h⟩ | ⟨-, h⟩
              · obtain ⟨rfl, h⟩ := xj_beq h
                exact xd_113 h
              · obtain ⟨rfl, h⟩ := xj_beq h
                exact xd_114 h
            · rcases xj_blt h with ⟨-, h⟩ | ⟨-, h⟩
              · obtain ⟨rfl, h⟩ := xj_beq h
                exact xd_115 h
              · obtain ⟨rfl, h⟩ := xj_beq h
                exact xd_116 h
          · rcases xj_blt h with ⟨-, h⟩ | ⟨-, h⟩
            · rcases xj_blt h with ⟨-, h⟩ | ⟨-, h⟩
              · obtain ⟨rfl, h⟩ := xj_beq h
                exact xd_117 h
              · obtain ⟨rfl, h⟩ := xj_beq h
                exact xd_118 h
            · rcases xj_blt h with ⟨-, h⟩ | ⟨-, h⟩
              · obtain ⟨rfl, h⟩ := xj_beq h
                exact xd_119 h
              · obtain ⟨rfl, h⟩ := xj_beq h
                exact xd_120 h
theorem xgt : ∀ mi pc e, xth mi pc = some e → xj_GT xyN xbt xhh xcm xwk xsl xex mi pc e := by
  intro mi pc e h
  unfold xth at h
  rcases xj_blt h with ⟨-, h⟩ | ⟨-, h⟩
  · rcases xj_blt h with ⟨-, h⟩ | ⟨-, h⟩
    · rcases xj_blt h with ⟨-, h⟩ | ⟨-, h⟩
      · obtain ⟨rfl, h⟩ := xj_beq h
        rcases xj_blt h with ⟨-, h⟩ | ⟨-, h⟩
        · obtain ⟨rfl, h⟩ := xj_beq h
          cases h
          exact xg_28_22
        · obtain ⟨rfl, h⟩ := xj_beq h
          cases h
          exact xg_28_85
      · obtain ⟨rfl, h⟩ := xj_beq h
        rcases xj_blt h with ⟨-, h⟩ | ⟨-, h⟩
        · obtain ⟨rfl, h⟩ := xj_beq h
          cases h
          exact xg_29_22
        · obtain ⟨rfl, h⟩ := xj_beq h
          cases h
          exact xg_29_44
    · rcases xj_blt h with ⟨-, h⟩ | ⟨-, h⟩
      · obtain ⟨rfl, h⟩ := xj_beq h
        rcases xj_blt h with ⟨-, h⟩ | ⟨-, h⟩
        · obtain ⟨rfl, h⟩ := xj_beq h
          cases h
          exact xg_30_21
        · obtain ⟨rfl, h⟩ := xj_beq h
          cases h
          exact xg_30_55
      · obtain ⟨rfl, h⟩ := xj_beq h
        rcases xj_blt h with ⟨-, h⟩ | ⟨-, h⟩
        · obtain ⟨rfl, h⟩ := xj_beq h
          cases h
          exact xg_31_10
        · obtain ⟨rfl, h⟩ := xj_beq h
          cases h
          exact xg_31_47
  · rcases xj_blt h with ⟨-, h⟩ | ⟨-, h⟩
    · rcases xj_blt h with ⟨-, h⟩ | ⟨-, h⟩
      · obtain ⟨rfl, h⟩ := xj_beq h
        rcases xj_blt h with ⟨-, h⟩ | ⟨-, h⟩
        · obtain ⟨rfl, h⟩ := xj_beq h
          cases h
          exact xg_32_10
        · obtain ⟨rfl, h⟩ := xj_beq h
          cases h
          exact xg_32_31
      · obtain ⟨rfl, h⟩ := xj_beq h
        rcases xj_blt h with ⟨-, h⟩ | ⟨-, h⟩
        · obtain ⟨rfl, h⟩ := xj_beq h
          cases h
          exact xg_33_11
        · rcases xj_blt h with ⟨-, h⟩ | ⟨-, h⟩
          · obtain ⟨rfl, h⟩ := xj_beq h
            cases h
            exact xg_33_28
          · obtain ⟨rfl, h⟩ := xj_beq h
            cases h
            exact xg_33_47
    · rcases xj_blt h with ⟨-, h⟩ | ⟨-, h⟩
      · obtain ⟨rfl, h⟩ := xj_beq h
        obtain ⟨rfl, h⟩ := xj_beq h
        cases h
        exact xg_34_7
      · obtain ⟨rfl, h⟩ := xj_beq h
        obtain ⟨rfl, h⟩ := xj_beq h
        cases h
        exact xg_48_96
theorem xgh : ∀ mi pc e hp, xca mi pc e = some (some hp) → xj_GH xyN xhh xcm xwk xnc (xex e).1 mi pc hp := by
  intro mi pc e hp h
  unfold xca at h
  rcases xj_blt h with ⟨-, h⟩ | ⟨-, h⟩
  · cases h
  · rcases xj_blt h with ⟨-, h⟩ | ⟨-, h⟩
    · rcases xj_blt h with ⟨-, h⟩ | ⟨-, h⟩
      · obtain ⟨rfl, h⟩ := xj_beq h
        obtain ⟨rfl, h⟩ := xj_beq h
        rcases xj_blt h with ⟨-, h⟩ | ⟨-, h⟩
        · obtain ⟨rfl, h⟩ := xj_beq h
          cases h
          exact xh_114_0
        · obtain ⟨rfl, h⟩ := xj_beq h
          cases h
          exact xh_114_1
      · rcases xj_blt h with ⟨-, h⟩ | ⟨-, h⟩
        · obtain ⟨rfl, h⟩ := xj_beq h
          obtain ⟨rfl, h⟩ := xj_beq h
          rcases xj_blt h with ⟨-, h⟩ | ⟨-, h⟩
          · obtain ⟨rfl, h⟩ := xj_beq h
            cases h
            exact xh_115_0
          · obtain ⟨rfl, h⟩ := xj_beq h
            cases h
            exact xh_115_1
        · obtain ⟨rfl, h⟩ := xj_beq h
          obtain ⟨rfl, h⟩ := xj_beq h
          rcases xj_blt h with ⟨-, h⟩ | ⟨-, h⟩
          · obtain ⟨rfl, h⟩ := xj_beq h
            cases h
            exact xh_116_0
          · obtain ⟨rfl, h⟩ := xj_beq h
            cases h
            exact xh_116_1
    · rcases xj_blt h with ⟨-, h⟩ | ⟨-, h⟩
      · rcases xj_blt h with ⟨-, h⟩ | ⟨-, h⟩
        · obtain ⟨rfl, h⟩ := xj_beq h
          obtain ⟨rfl, h⟩ := xj_beq h
          rcases xj_blt h with ⟨-, h⟩ | ⟨-, h⟩
          · obtain ⟨rfl, h⟩ := xj_beq h
            cases h
            exact xh_117_0
          · obtain ⟨rfl, h⟩ := xj_beq h
            cases h
            exact xh_117_1
        · obtain ⟨rfl, h⟩ := xj_beq h
          obtain ⟨rfl, h⟩ := xj_beq h
          rcases xj_blt h with ⟨-, h⟩ | ⟨-, h⟩
          · obtain ⟨rfl, h⟩ := xj_beq h
            cases h
            exact xh_118_0
          · rcases xj_blt h with ⟨-, h⟩ | ⟨-, h⟩
            · obtain ⟨rfl, h⟩ := xj_beq h
              cases h
              exact xh_118_1
            · obtain ⟨rfl, h⟩ := xj_beq h
              cases h
              exact xh_118_2
      · rcases xj_blt h with ⟨-, h⟩ | ⟨-, h⟩
        · obtain ⟨rfl, h⟩ := xj_beq h
          obtain ⟨rfl, h⟩ := xj_beq h
          rcases xj_blt h with ⟨-, h⟩ | ⟨-, h⟩
          · rcases xj_blt h with ⟨-, h⟩ | ⟨-, h⟩
            · obtain ⟨rfl, h⟩ := xj_beq h
              cases h
              exact xh_119_0
            · obtain ⟨rfl, h⟩ := xj_beq h
              cases h
              exact xh_119_1
          · rcases xj_blt h with ⟨-, h⟩ | ⟨-, h⟩
            · obtain ⟨rfl, h⟩ := xj_beq h
              cases h
              exact xh_119_2
            · obtain ⟨rfl, h⟩ := xj_beq h
              cases h
              exact xh_119_3
        · obtain ⟨rfl, h⟩ := xj_beq h
          obtain ⟨rfl, h⟩ := xj_beq h
          rcases xj_blt h with ⟨-, h⟩ | ⟨-, h⟩
          · obtain ⟨rfl, h⟩ := xj_beq h
            cases h
            exact xh_120_1
          · obtain ⟨rfl, h⟩ := xj_beq h
            cases h
            exact xh_120_2
theorem xgp : ∀ mi pc e, xca mi pc e = some none → xhh mi = [] := by
  intro mi pc e h
  unfold xca at h
  rcases xj_blt h with ⟨hl, -⟩ | ⟨-, h⟩
  · unfold xhh
    have : Nat.blt mi 114 = true := Nat.ble_eq_true_of_le hl
    rw [this]
    rfl
  · exfalso
    rcases xj_blt h with ⟨-, h⟩ | ⟨-, h⟩
    · rcases xj_blt h with ⟨-, h⟩ | ⟨-, h⟩
      · obtain ⟨rfl, h⟩ := xj_beq h
        obtain ⟨rfl, h⟩ := xj_beq h
        rcases xj_blt h with ⟨-, h⟩ | ⟨-, h⟩
        · obtain ⟨rfl, h⟩ := xj_beq h
          cases h
        · obtain ⟨rfl, h⟩ := xj_beq h
          cases h
      · rcases xj_blt h with ⟨-, h⟩ | ⟨-, h⟩
        · obtain ⟨rfl, h⟩ := xj_beq h
          obtain ⟨rfl, h⟩ := xj_beq h
          rcases xj_blt h with ⟨-, h⟩ | ⟨-, h⟩
          · obtain ⟨rfl, h⟩ := xj_beq h
            cases h
          · obtain ⟨rfl, h⟩ := xj_beq h
            cases h
        · obtain ⟨rfl, h⟩ := xj_beq h
          obtain ⟨rfl, h⟩ := xj_beq h
          rcases xj_blt h with ⟨-, h⟩ | ⟨-, h⟩
          · obtain ⟨rfl, h⟩ := xj_beq h
            cases h
          · obtain ⟨rfl, h⟩ := xj_beq h
            cases h
    · rcases xj_blt h with ⟨-, h⟩ | ⟨-, h⟩
      · rcases xj_blt h with ⟨-, h⟩ | ⟨-, h⟩
        · obtain ⟨rfl, h⟩ := xj_beq h
          obtain ⟨rfl, h⟩ := xj_beq h
          rcases xj_blt h with ⟨-, h⟩ | ⟨-, h⟩
          · obtain ⟨rfl, h⟩ := xj_beq h
            cases h
          · obtain ⟨rfl, h⟩ := xj_beq h
            cases h
        · obtain ⟨rfl, h⟩ := xj_beq h
          obtain ⟨rfl, h⟩ := xj_beq h
          rcases xj_blt h with ⟨-, h⟩ | ⟨-, h⟩
          · obtain ⟨rfl, h⟩ := xj_beq h
            cases h
          · rcases xj_blt h with ⟨-, h⟩ | ⟨-, h⟩
            · obtain ⟨rfl, h⟩ := xj_beq h
              cases h
            · obtain ⟨rfl, h⟩ := xj_beq h
              cases h
      · rcases xj_blt h with ⟨-, h⟩ | ⟨-, h⟩
        · obtain ⟨rfl, h⟩ := xj_beq h
          obtain ⟨rfl, h⟩ := xj_beq h
          rcases xj_blt h with ⟨-, h⟩ | ⟨-, h⟩
          · rcases xj_blt h with ⟨-, h⟩ | ⟨-, h⟩
            · obtain ⟨rfl, h⟩ := xj_beq h
              cases h
            · obtain ⟨rfl, h⟩ := xj_beq h
              cases h
          · rcases xj_blt h with ⟨-, h⟩ | ⟨-, h⟩
            · obtain ⟨rfl, h⟩ := xj_beq h
              cases h
            · obtain ⟨rfl, h⟩ := xj_beq h
              cases h
        · obtain ⟨rfl, h⟩ := xj_beq h
          obtain ⟨rfl, h⟩ := xj_beq h
          rcases xj_blt h with ⟨-, h⟩ | ⟨-, h⟩
          · obtain ⟨rfl, h⟩ := xj_beq h
            cases h
          · obtain ⟨rfl, h⟩ := xj_beq h
            cases h
theorem xgf : ∀ mi ix ci k so, xfl mi ix = some (ci, k, so) → ∃ (C : String) (T : u_T) (N : Nat) (ty0 : Nat → FieldType), xcl[ci]? = some (C, T, N) ∧ (∀ w ∈ u_ws C T N, w ∈ xcm) ∧ (∀ k, k < N → parseFieldDescriptor (T k).2.2.1 = some (ty0 k)) ∧ (∀ a, a < N → ∀ b, b < N → a ≠ b → (T a).2.1 ≠ (T b).2.1) ∧ k < N ∧
    Jvm.Cond.fieldLink (xyN mi).cls ix (T k).1 (T k).2.1 (T k).2.2.1 ∈ xcm ∧
    (so = 0 → ty0 k = .int ∧ (T k).2.2.2 = false) ∧ (so = 1 → ty0 k = .boolean ∧ (T k).2.2.2 = false) ∧ (so = 2 → ((∃ t, ty0 k = .array t) ∨ ∃ n, ty0 k = .object n) ∧ (T k).2.2.2 = true ∧ (T k).1 = (xyN mi).cls ∧ (xyN mi).name = "<init>") := by
  intro mi ix ci k so h
  unfold xfl at h
  have key : ∀ o i own, xow mi = o → xin mi = i → o ≠ 9 → xcn o = own → (xfT o i).all (xj_flk own i) = true → (xfT o i).lookup ix = some (ci, k, so) → ∃ (C : String) (T : u_T) (N : Nat) (ty0 : Nat → FieldType), xcl[ci]? = some (C, T, N) ∧ (∀ w ∈ u_ws C T N, w ∈ xcm) ∧ (∀ k, k < N → parseFieldDescriptor (T k).2.2.1 = some (ty0 k)) ∧ (∀ a, a < N → ∀ b, b < N → a ≠ b → (T a).2.1 ≠ (T b).2.1) ∧ k < N ∧
    Jvm.Cond.fieldLink (xyN mi).cls ix (T k).1 (T k).2.1 (T k).2.2.1 ∈ xcm ∧
    (so = 0 → ty0 k = .int ∧ (T k).2.2.2 = false) ∧ (so = 1 → ty0 k = .boolean ∧ (T k).2.2.2 = false) ∧ (so = 2 → ((∃ t, ty0 k = .array t) ∨ ∃ n, ty0 k = .object n) ∧ (T k).2.2.2 = true ∧ (T k).1 = (xyN mi).cls ∧ (xyN mi).name = "<init>") := by
    intro o i own ho hi h9 hn hall hl
    have hc : (xyN mi).cls = own := by rw [xcls (by rw [ho]; exact h9), ho, hn]
    obtain ⟨C, T, N, ty0, a1, a2, a3, a4, a5, a6, a7, a8, a9⟩ := xj_flk_ok hall hl
    refine ⟨C, T, N, ty0, a1, a2, a3, a4, a5, by rw [hc]; exact a6, a7, a8, fun e => ?_⟩
    obtain ⟨b1, b2, b3, b4⟩ := a9 e
    exact ⟨b1, b2, by rw [hc]; exact b3, (xcls0 mi (xlt (by rw [ho]; exact h9))).2 (hi.trans b4)⟩
  cases hi : xin mi with
  | false =>
    rw [hi] at h
    match ho : xow mi with
    | 0 => rw [ho] at h; cases h
    | 1 => rw [ho] at h; cases h
    | 2 => rw [ho] at h; exact key 2 false "CaseDesk$Life" ho hi (by decide) rfl xF2n_ok h
    | 3 => rw [ho] at h; exact key 3 false "CaseDesk$Plan" ho hi (by decide) rfl xF3n_ok h
    | 4 => rw [ho] at h; exact key 4 false "CaseDesk" ho hi (by decide) rfl xF4n_ok h
    | 5 => rw [ho] at h; exact key 5 false "CaseDeskModel" ho hi (by decide) rfl xF5n_ok h
    | 6 => rw [ho] at h; cases h
    | 7 => rw [ho] at h; cases h
    | 8 => rw [ho] at h; cases h
    | 9 => rw [ho] at h; cases h
    | n + 10 => rw [ho] at h; cases h
  | true =>
    rw [hi] at h
    match ho : xow mi with
    | 0 => rw [ho] at h; cases h
    | 1 => rw [ho] at h; cases h
    | 2 => rw [ho] at h; exact key 2 true "CaseDesk$Life" ho hi (by decide) rfl xF2i_ok h
    | 3 => rw [ho] at h; exact key 3 true "CaseDesk$Plan" ho hi (by decide) rfl xF3i_ok h
    | 4 => rw [ho] at h; exact key 4 true "CaseDesk" ho hi (by decide) rfl xF4i_ok h
    | 5 => rw [ho] at h; exact key 5 true "CaseDeskModel" ho hi (by decide) rfl xF5i_ok h
    | 6 => rw [ho] at h; cases h
    | 7 => rw [ho] at h; cases h
    | 8 => rw [ho] at h; cases h
    | 9 => rw [ho] at h; cases h
    | n + 10 => rw [ho] at h; cases h
theorem xgm0 : ∀ mi ix kd y k, xml mi ix = some (kd, y, k) → xow mi ≠ 9 ∧ xGMb (xyN mi).cls (ix, kd, y, k) = true := by
  intro mi ix kd y k h
  unfold xml at h
  have key : ∀ o own, xow mi = o → o ≠ 9 → xcn o = own → (xmT o).all (xGMb own) = true → (xmT o).lookup ix = some (kd, y, k) → xow mi ≠ 9 ∧ xGMb (xyN mi).cls (ix, kd, y, k) = true := by
    intro o own ho h9 hn hall hl
    have h8 : xow mi ≠ 9 := by rw [ho]; exact h9
    have hc : (xyN mi).cls = own := by rw [xcls h8, ho, hn]
    refine ⟨h8, ?_⟩
    rw [hc]
    exact List.all_eq_true.mp hall _ (xj_lku hl)
  match ho : xow mi with
  | 0 => rw [ho] at h; exact key 0 "CaseDeskLaw" ho (by decide) rfl xM0_ok h
  | 1 => rw [ho] at h; exact key 1 "java/lang/Math" ho (by decide) rfl xM1_ok h
  | 2 => rw [ho] at h; exact key 2 "CaseDesk$Life" ho (by decide) rfl xM2_ok h
  | 3 => rw [ho] at h; exact key 3 "CaseDesk$Plan" ho (by decide) rfl xM3_ok h
  | 4 => rw [ho] at h; exact key 4 "CaseDesk" ho (by decide) rfl xM4_ok h
  | 5 => rw [ho] at h; exact key 5 "CaseDeskModel" ho (by decide) rfl xM5_ok h
  | 6 => rw [ho] at h; cases h
  | 7 => rw [ho] at h; cases h
  | 8 => rw [ho] at h; cases h
  | 9 => rw [ho] at h; cases h
  | n + 10 => rw [ho] at h; cases h
theorem xgn : ∀ (L : Nat) (xs : Nat → Int32) mi ix ci fs, xnw mi ix = some (ci, fs) → xj_GN (xX L xs) xyN xcm xcl mi ix ci fs := by
  intro L xs mi ix ci fs h
  unfold xnw at h
  have hc : xow mi ≠ 9 → (xyN mi).cls = xcn (xow mi) := xcls
  match ho : xow mi with
  | 0 =>
    rw [ho] at h
    have ho9 : (xyN mi).cls = "CaseDeskLaw" := by rw [hc (by rw [ho]; decide), ho]; rfl
    have hm := xj_lku h
    simp only [xnT, xN0, List.mem_cons, List.not_mem_nil, or_false, Prod.mk.injEq] at hm
    rcases hm with ⟨rfl, rfl, rfl⟩ | ⟨rfl, rfl, rfl⟩
    · exact xn_0_8 ho9
    · exact xn_0_44 ho9
  | 1 => rw [ho] at h; cases h
  | 2 => rw [ho] at h; cases h
  | 3 => rw [ho] at h; cases h
  | 4 =>
    rw [ho] at h
    have ho9 : (xyN mi).cls = "CaseDesk" := by rw [hc (by rw [ho]; decide), ho]; rfl
    have hm := xj_lku h
    simp only [xnT, xN4, List.mem_cons, List.not_mem_nil, or_false, Prod.mk.injEq] at hm
    rcases hm with ⟨rfl, rfl, rfl⟩ | ⟨rfl, rfl, rfl⟩
    · exact xn_4_7 ho9
    · exact xn_4_16 ho9
  | 5 => rw [ho] at h; cases h
  | 6 => rw [ho] at h; cases h
  | 7 => rw [ho] at h; cases h
  | 8 => rw [ho] at h; cases h
  | 9 => rw [ho] at h; cases h
  | n + 10 => rw [ho] at h; cases h
theorem xgs_ok : ∀ mi ix a, xgs mi ix = some a → a = 1001 ∧ ∃ host, Jvm.Cond.fieldLinkNest (xyN mi).cls ix "CaseDesk" "STATE_AFTER" "[I" host ∈ xwk := by
  intro mi ix a h
  unfold xgs at h
  obtain ⟨ho, h⟩ := xj_beq h
  obtain ⟨rfl, h⟩ := xj_beq h
  cases h
  refine ⟨rfl, "CaseDesk", ?_⟩
  rw [xcls (by rw [ho]; decide), ho]
  decide +kernel
theorem xgv_ok (L : Nat) (xs : Nat → Int32) : ∀ a n f, xgv L xs a = some (n, f) → 1000 ≤ a ∧ a < 2000 := by
  intro a n f h
  unfold xgv at h
  cases hb : Nat.beq a 1000 with
  | true => have := Nat.eq_of_beq_eq_true hb; omega
  | false =>
    rw [hb] at h
    obtain ⟨rfl, -⟩ := xj_beq (show cond (Nat.beq a 1001) (some (10, xst)) none = some (n, f) from h)
    omega
theorem xGl (L : Nat) (xs : Nat → Int32) : xj_Gl (xX L xs) xyN xbt xmx xhh xcm xwk xcl xsl xnc xex := by
  refine ⟨xcm_good, xwk_ok, xgc, xgf, fun mi ix a b h => xGMb_9 (xgm0 mi ix 9 a b h).2, fun mi ix a b h => xGMb_8 (xgm0 mi ix 8 a b h).2, xgs_ok, xgv_ok L xs, fun mi ix kd y k h hk => xGMb_ok (xgm0 mi ix kd y k h).2 hk rfl, xgn L xs, ⟨by decide +kernel, by decide +kernel, by decide +kernel⟩, xgt, xgp, xgh⟩
end
section
/-! what holds at the law's start -/
theorem xcm_in {w : Jvm.Cond} (h : w ∈ xcm) : w ∈ lw_tbl := (List.mem_filter.mp h).1
abbrev xgiven : Jvm.Cond := Jvm.Cond.and given_1 narrow_1
theorem xsl_in : xsl.all (fun q => decide (Jvm.Cond.stringRef q.1 q.2.1 q.2.2 ∈ lw_tbl)) = true := by decide +kernel
set_option maxRecDepth 100000 in
theorem xsl_ex : xsl.all (fun q => decide (Jvm.Cond.exactly (.string q.1 q.2.1) "java/lang/String" ∈ flatC xgiven)) = true := by decide +kernel
set_option maxRecDepth 100000 in
theorem xnc_in : xnc.all (fun q => decide (Jvm.Cond.not (.castable q.1 q.2) ∈ flatC xgiven)) = true := by decide +kernel
set_option maxRecDepth 100000 in
theorem xst_in : ∀ j, j < 10 → Jvm.Cond.eq (.elem (.static "CaseDesk" "STATE_AFTER" "[I") (.int (Int32.ofNat j))) (.int (xst j)) ∈ flatC xgiven := by decide +kernel
set_option maxRecDepth 100000 in
theorem xst_len : Jvm.Cond.eq (.length (.static "CaseDesk" "STATE_AFTER" "[I")) (.int 10) ∈ flatC xgiven ∧ Jvm.Cond.arrayOf (.static "CaseDesk" "STATE_AFTER" "[I") .int ∈ flatC xgiven ∧ Jvm.Cond.isRef (.static Bundle.tN "UNASSIGNED_STACK" Bundle.steD) ∈ flatC xgiven ∧ Jvm.Cond.isRef (.static Bundle.tN "SUPPRESSED_SENTINEL" Bundle.listD) ∈ flatC xgiven := by decide +kernel
theorem xstat : Jvm.Cond.laysStatic "CaseDesk" "STATE_AFTER" "[I" ∈ lw_tbl ∧ Jvm.Cond.initialized "CaseDesk" ∈ lw_tbl ∧ Jvm.Cond.laysStatic Bundle.tN "UNASSIGNED_STACK" Bundle.steD ∈ lw_tbl ∧ Jvm.Cond.laysStatic Bundle.tN "SUPPRESSED_SENTINEL" Bundle.listD ∈ lw_tbl ∧ Jvm.Cond.initialized Bundle.tN ∈ lw_tbl := by decide +kernel
theorem xinst : Jvm.Cond.instantiable "CaseDesk$Life" 11 ∈ lw_tbl ∧ Jvm.Cond.instantiable "CaseDesk$Plan" 14 ∈ lw_tbl ∧ Jvm.Cond.instantiable "CaseDesk" 5 ∈ lw_tbl ∧ Jvm.Cond.instantiable "CaseDeskModel" 43 ∈ lw_tbl ∧ Jvm.Cond.arrayClass .int ∈ lw_tbl ∧ Jvm.Cond.arrayClass .boolean ∈ lw_tbl ∧ Jvm.Cond.arrayClass .long ∈ lw_tbl := by decide +kernel
theorem xFx0 {s : State} {b L : Nat} {xs : Nat → Int32} (hts : ∀ w ∈ lw_tbl, w.before #[Value.ref b] s = true) (hX : va_X b L xs s s.heap) (hbl : b < s.heap.size) (hg : xgiven.before #[Value.ref b] s = true) :
    ∃ (D : va_G) (cA : FieldType → ClassId) (ad : Nat → Nat), ad 1000 = b ∧ xj_Fx (xX L xs) D xcl cA (fun q => s.heap.size ≤ q) xwk xsl xnc ad s s.heap := by
  have hs := flat_of_before _ hg
  have hA : ∀ a : Nat, a < s.heap.size → ¬ (fun q => s.heap.size ≤ q) a := fun a h z => Nat.lt_irrefl _ (Nat.lt_of_lt_of_le h z)
  obtain ⟨n1, n2, n3, n4, n5, n6, n7⟩ := xinst
  obtain ⟨s1, s2, s3, s4, s5⟩ := xstat
  obtain ⟨l1, l2, l3, l4⟩ := xst_len
  obtain ⟨c0, i0, k0⟩ := u_known hts (fun w h => xcm_in (xcl_0a w h)) (hts _ n1)
  obtain ⟨c1, i1, k1⟩ := u_known hts (fun w h => xcm_in (xcl_1a w h)) (hts _ n2)
  obtain ⟨c2, i2, k2⟩ := u_known hts (fun w h => xcm_in (xcl_2a w h)) (hts _ n3)
  obtain ⟨c3, i3, k3⟩ := u_known hts (fun w h => xcm_in (xcl_3a w h)) (hts _ n4)
  obtain ⟨a0, ka0, m0, f0, g0, h0⟩ := Cond.arrayClass_spec (hts _ n5)
  obtain ⟨a1, ka1, m1, f1, g1, h1⟩ := Cond.arrayClass_spec (hts _ n6)
  obtain ⟨a2, ka2, m2, f2, g2, h2⟩ := Cond.arrayClass_spec (hts _ n7)
  have hlen : (Term.length (.static "CaseDesk" "STATE_AFTER" "[I")).eval #[Value.ref b] s none [] s = some (.int (Int32.ofNat 10)) := va_eqt (hs _ l1)
  obtain ⟨t, ht, hT⟩ := va_Tof (N := 10) (f := fun j => .int (xst j)) (by decide) (hs _ l2) hlen (fun j hj => va_eqt (hs _ (xst_in j hj))) hA
  refine ⟨(fun c => match c with | 0 => c0 | 1 => c1 | 2 => c2 | _ => c3, fun c => match c with | 0 => i0 | 1 => i1 | 2 => i2 | _ => i3), fun ty => match ty with | .int => a0 | .boolean => a1 | .long => a2 | _ => 0, fun i => if i = 1000 then b else if i = 1001 then t else 0, rfl, ⟨?_, ?_⟩, ?_, ?_, ?_, ?_, ?_, ?_, ?_⟩
  · intro c q hq
    match c, hq with
    | 0, hq => cases hq; exact k0
    | 1, hq => cases hq; exact k1
    | 2, hq => cases hq; exact k2
    | 3, hq => cases hq; exact k3
    | n + 4, hq => cases hq
  · intro k q hq
    match k, hq with
    | 0, hq => cases hq; exact ⟨fun n z => ⟨fun k h => (by cases h), ka0, g0, m0, h0⟩, f0⟩
    | 1, hq => cases hq; exact ⟨fun n z => ⟨fun k h => (by cases h), ka1, g1, m1, h1⟩, f1⟩
    | 2, hq => cases hq; exact ⟨fun n z => ⟨fun k h => (by cases h), ka2, g2, m2, h2⟩, f2⟩
    | n + 3, hq => cases hq
  · intro a n f h
    have h : xgv L xs a = some (n, f) := h
    unfold xgv at h
    cases hb : Nat.beq a 1000 with
    | true =>
      have e := Nat.eq_of_beq_eq_true hb
      subst e
      cases h
      obtain ⟨scr, q1, q2, q3, q4, q5⟩ := hX
      exact ⟨scr, q1, q2, q3, Nat.le_of_eq q4.symm, by rw [q4]; rfl, q5, hA b hbl⟩
    | false =>
      rw [hb] at h
      obtain ⟨rfl, h⟩ := xj_beq (show cond (Nat.beq a 1001) (some (10, xst)) none = some (n, f) from h)
      cases h
      exact hT
  · exact va_Zof (hts _ s1) (hts _ s2) ht hA
  · exact fun w hw => va_Nw.of (xwk_ok w hw).1 (hts _ (xwk_in w hw))
  · exact vx_Zqof (hts _ s3) (hts _ s5) (hs _ l3) hA
  · exact vx_Zqof (hts _ s4) (hts _ s5) (hs _ l4) hA
  · intro q hq
    have e1 := of_decide_eq_true (List.all_eq_true.mp xsl_in q hq)
    have e2 := of_decide_eq_true (List.all_eq_true.mp xsl_ex q hq)
    obtain ⟨a, c, cA, kA, q1, -⟩ := Cond.exactly_spec (args := #[Value.ref b]) (first := s) (o := none) (s := s) (idx := []) (t := .string q.1 q.2.1) (cls := "java/lang/String") (hs _ e2)
    exact ⟨a, vk_R.of (hts _ e1) q1⟩
  · intro q hq
    exact va_Nc.of (hs _ (of_decide_eq_true (List.all_eq_true.mp xnc_in q hq)))
end
section
/-! rows for runs of our machine: branches, arrays -/
section XR
variable {X : xj_T} {d m pc nx a b c n : Nat} {ls : List (Nat × Value)} {st r : List Value} {w : xj_W} {P : (Option Value ⊕ Nat) → xj_W → Nat → Nat → Prop} {x y j : Int32}
theorem xj_E.b_eq (ht : x = y → xj_E X d m a ls st w P) (hf : ¬ x = y → xj_E X d m b ls st w P) : xj_E X d m (if xj_cmp .eq x y = true then a else b) ls st w P := xj_E.ite (fun h => ht (of_decide_eq_true h)) (fun h => hf (fun q => h (decide_eq_true q)))
theorem xj_E.b_ne (ht : x ≠ y → xj_E X d m a ls st w P) (hf : ¬ x ≠ y → xj_E X d m b ls st w P) : xj_E X d m (if xj_cmp .ne x y = true then a else b) ls st w P := xj_E.ite (fun h => ht (of_decide_eq_true h)) (fun h => hf (fun q => h (decide_eq_true q)))
theorem xj_E.b_lt (ht : x < y → xj_E X d m a ls st w P) (hf : ¬ x < y → xj_E X d m b ls st w P) : xj_E X d m (if xj_cmp .lt x y = true then a else b) ls st w P := xj_E.ite (fun h => ht (of_decide_eq_true h)) (fun h => hf (fun q => h (decide_eq_true q)))
theorem xj_E.b_ge (ht : y ≤ x → xj_E X d m a ls st w P) (hf : ¬ y ≤ x → xj_E X d m b ls st w P) : xj_E X d m (if xj_cmp .ge x y = true then a else b) ls st w P := xj_E.ite (fun h => ht (of_decide_eq_true h)) (fun h => hf (fun q => h (decide_eq_true q)))
theorem xj_E.b_gt (ht : y < x → xj_E X d m a ls st w P) (hf : ¬ y < x → xj_E X d m b ls st w P) : xj_E X d m (if xj_cmp .gt x y = true then a else b) ls st w P := xj_E.ite (fun h => ht (of_decide_eq_true h)) (fun h => hf (fun q => h (decide_eq_true q)))
theorem xj_E.b_le (ht : x ≤ y → xj_E X d m a ls st w P) (hf : ¬ x ≤ y → xj_E X d m b ls st w P) : xj_E X d m (if xj_cmp .le x y = true then a else b) ls st w P := xj_E.ite (fun h => ht (of_decide_eq_true h)) (fun h => hf (fun q => h (decide_eq_true q)))
theorem xj_E.iald (hcd : xj_cd X m pc = some (.iaload, nx)) (hsh : w.1[c]? = some (.inl (.int, n))) (hin : vp_in j n) (k : xj_E X d m nx ls (.int (w.2.1 c j.toNatClampNeg) :: r) w P) : xj_E X d m pc ls (.int j :: .ref c :: r) w P := by
  refine xj_E.one hcd ?_ k
  have e : xj_sL X .iaload nx ls (.int j :: .ref c :: r) w = some (nx, ls, .int (w.2.1 c j.toNatClampNeg) :: r, w) := by
    simp only [xj_sL, hsh]
    exact if_neg hin
  show xj_or (xj_sL X .iaload nx ls (.int j :: .ref c :: r) w) _ = _
  rw [e]; rfl
theorem xj_E.igiv {f : Nat → Int32} (hcd : xj_cd X m pc = some (.iaload, nx)) (hsh : w.1[c]? = none) (hg : xj_gv X c = some (n, f)) (hin : vp_in j n) (k : xj_E X d m nx ls (.int (f j.toNatClampNeg) :: r) w P) : xj_E X d m pc ls (.int j :: .ref c :: r) w P := by
  refine xj_E.one hcd ?_ k
  have e : xj_sL X .iaload nx ls (.int j :: .ref c :: r) w = some (nx, ls, .int (f j.toNatClampNeg) :: r, w) := by
    simp only [xj_sL, hsh, hg]
    exact if_neg hin
  show xj_or (xj_sL X .iaload nx ls (.int j :: .ref c :: r) w) _ = _
  rw [e]; rfl
theorem xj_E.bald (hcd : xj_cd X m pc = some (.baload, nx)) (hsh : w.1[c]? = some (.inl (.boolean, n))) (hin : vp_in j n) (k : xj_E X d m nx ls (.int (w.2.1 c j.toNatClampNeg) :: r) w P) : xj_E X d m pc ls (.int j :: .ref c :: r) w P := by
  refine xj_E.one hcd ?_ k
  have e : xj_sL X .baload nx ls (.int j :: .ref c :: r) w = some (nx, ls, .int (w.2.1 c j.toNatClampNeg) :: r, w) := by
    simp only [xj_sL, hsh]
    exact if_neg hin
  show xj_or (xj_sL X .baload nx ls (.int j :: .ref c :: r) w) _ = _
  rw [e]; rfl
theorem xj_E.iast (hcd : xj_cd X m pc = some (.iastore, nx)) (hsh : w.1[c]? = some (.inl (.int, n))) (hin : vp_in j n) (k : xj_E X d m nx ls r (w.1, xj_set w.2.1 c j.toNatClampNeg x, w.2.2) P) : xj_E X d m pc ls (.int x :: .int j :: .ref c :: r) w P := by
  refine xj_E.one hcd ?_ k
  have e : xj_sL X .iastore nx ls (.int x :: .int j :: .ref c :: r) w = some (nx, ls, r, (w.1, xj_set w.2.1 c j.toNatClampNeg x, w.2.2)) := by
    simp only [xj_sL, hsh]
    exact if_neg hin
  show xj_or (xj_sL X .iastore nx ls (.int x :: .int j :: .ref c :: r) w) _ = _
  rw [e]; rfl
theorem xj_E.bast (hcd : xj_cd X m pc = some (.bastore, nx)) (hsh : w.1[c]? = some (.inl (.boolean, n))) (hin : vp_in j n) (k : xj_E X d m nx ls r (w.1, xj_set w.2.1 c j.toNatClampNeg (x &&& 1), w.2.2) P) : xj_E X d m pc ls (.int x :: .int j :: .ref c :: r) w P := by
  refine xj_E.one hcd ?_ k
  have e : xj_sL X .bastore nx ls (.int x :: .int j :: .ref c :: r) w = some (nx, ls, r, (w.1, xj_set w.2.1 c j.toNatClampNeg (x &&& 1), w.2.2)) := by
    simp only [xj_sL, hsh]
    exact if_neg hin
  show xj_or (xj_sL X .bastore nx ls (.int x :: .int j :: .ref c :: r) w) _ = _
  rw [e]; rfl
/-- a call whose callee is known to return, with no new cell -/
def xj_Ri (S : List xj_S) (K : Int32 → (Nat → Nat → Int32) → (Nat → Nat → Int64) → Prop) : (Option Value ⊕ Nat) → xj_W → Nat → Nat → Prop := fun o w c z => ∃ r σ τ, o = .inl (some (.int r)) ∧ w = (S, σ, τ) ∧ c = 0 ∧ z = 0 ∧ K r σ τ
def xj_Rv (S : List xj_S) (K : (Nat → Nat → Int32) → (Nat → Nat → Int64) → Prop) : (Option Value ⊕ Nat) → xj_W → Nat → Nat → Prop := fun o w c z => ∃ σ τ, o = .inl none ∧ w = (S, σ, τ) ∧ c = 0 ∧ z = 0 ∧ K σ τ
variable {i : Instr} {kd u : Nat} {av rest : List Value} {S : List xj_S}
theorem xj_E.calli (hcd : xj_cd X m pc = some (i, nx)) (hs : xj_step X m i nx pc ls st w = none) (hi : xj_inv X m i st w = some (kd, u, av, rest)) (hsf : xj_safe w.1.length ls rest = true) (hon : xj_one av = true)
    (h : xj_E X d u 0 (lv_args 0 av) [] w (xj_Ri S (fun v σ τ => xj_E X (d + 1) m nx ls (.int v :: rest) (S, σ, τ) P))) : xj_E X (d + 1) m pc ls st w P := by
  refine xj_E.call hcd hs hi hsf hon (h.mono ?_)
  intro o w' c z ⟨v, σ, τ, ho, hw, hc, hz, hk⟩
  subst ho; subst hw; subst hc; subst hz
  exact hk.mono (fun o2 w2 c2 z2 h2 => by rw [Nat.zero_add, Nat.zero_add]; exact h2)
theorem xj_E.callv (hcd : xj_cd X m pc = some (i, nx)) (hs : xj_step X m i nx pc ls st w = none) (hi : xj_inv X m i st w = some (kd, u, av, rest)) (hsf : xj_safe w.1.length ls rest = true) (hon : xj_one av = true)
    (h : xj_E X d u 0 (lv_args 0 av) [] w (xj_Rv S (fun σ τ => xj_E X (d + 1) m nx ls rest (S, σ, τ) P))) : xj_E X (d + 1) m pc ls st w P := by
  refine xj_E.call hcd hs hi hsf hon (h.mono ?_)
  intro o w' c z ⟨σ, τ, ho, hw, hc, hz, hk⟩
  subst ho; subst hw; subst hc; subst hz
  exact hk.mono (fun o2 w2 c2 z2 h2 => by rw [Nat.zero_add, Nat.zero_add]; exact h2)
end XR
end
section
/-! the cells behind the constructors; what each method asks -/
def SH : List xj_S := [.inr (2, [.ref 1, .ref 14, .ref 23, .int 0, .int 0]), .inr (1, [.int 0, .ref 2, .ref 3, .ref 4, .ref 5, .int 0, .ref 6, .ref 7, .ref 8, .ref 9, .ref 10, .ref 11, .ref 12, .ref 13]), .inl (.int, 12), .inl (.int, 12), .inl (.int, 12), .inl (.int, 12), .inl (.int, 16), .inl (.boolean, 16), .inl (.int, 16), .inl (.int, 32), .inl (.int, 32), .inl (.int, 16), .inl (.int, 16), .inl (.int, 16), .inr (0, [.int 0, .int 0, .ref 15, .ref 16, .ref 17, .ref 18, .ref 19, .ref 20, .int 0, .ref 21, .ref 22]), .inl (.int, 40), .inl (.int, 40), .inl (.int, 40), .inl (.int, 40), .inl (.int, 40), .inl (.int, 4), .inl (.int, 48), .inl (.int, 48), .inr (0, [.int 0, .int 0, .ref 24, .ref 25, .ref 26, .ref 27, .ref 28, .ref 29, .int 0, .ref 30, .ref 31]), .inl (.int, 40), .inl (.int, 40), .inl (.int, 40), .inl (.int, 40), .inl (.int, 40), .inl (.int, 4), .inl (.int, 48), .inl (.int, 48), .inr (3, [.int 0, .int 0, .ref 33, .ref 34, .ref 35, .int 0, .ref 36, .ref 37, .ref 38, .ref 39, .ref 40, .ref 41, .ref 42, .ref 43, .ref 44, .int 0, .int 0, .int 0, .ref 45, .ref 46, .ref 47, .ref 48, .ref 49, .ref 50, .int 0, .ref 51, .ref 52, .int 0, .ref 53, .ref 54, .ref 55, .ref 56, .ref 57, .ref 58, .int 0, .ref 59, .ref 60, .int 0, .int 0, .int 0, .ref 61, .ref 62, .ref 63]), .inl (.int, 12), .inl (.int, 12), .inl (.int, 12), .inl (.int, 16), .inl (.boolean, 16), .inl (.int, 16), .inl (.int, 32), .inl (.int, 32), .inl (.boolean, 16), .inl (.int, 16), .inl (.int, 16), .inl (.int, 16), .inl (.int, 40), .inl (.int, 40), .inl (.int, 40), .inl (.int, 40), .inl (.int, 40), .inl (.int, 4), .inl (.int, 48), .inl (.int, 48), .inl (.int, 40), .inl (.int, 40), .inl (.int, 40), .inl (.int, 40), .inl (.int, 40), .inl (.int, 4), .inl (.int, 48), .inl (.int, 48), .inl (.int, 16), .inl (.int, 16), .inl (.int, 16), .inl (.long, 1)]
set_option maxRecDepth 100000 in
theorem wp_has {L d : Nat} {xs : Nat → Int32} {S : Nat → Nat → Int32} {T : Nat → Nat → Int64} {P : (Option Value ⊕ Nat) → xj_W → Nat → Nat → Prop} {k : Int32} (h : (k < 0 → (P (.inl (some (.int 0))) (SH, S, T) 0 0)) ∧ (¬ (k < 0) → (((S 14 1) ≤ k → (P (.inl (some (.int 0))) (SH, S, T) 0 0)) ∧ (¬ ((S 14 1) ≤ k) → (P (.inl (some (.int 1))) (SH, S, T) 0 0))))) : xj_E (xX L xs) d 4 0 [(0, .ref 14), (1, .int k)] [] (SH, S, T) P := by
  refine xj_E.adv 2 (pc' := (if xj_cmp .lt k 0 = true then 16 else 4)) (ls' := [(0, .ref 14), (1, .int k)]) (st' := []) (w' := (SH, S, T)) rfl ?_
  refine xj_E.b_lt (fun q => ?_) (fun q => ?_)
  · have h := h.1 q
    refine xj_E.adv 1 (pc' := 17) (ls' := [(0, .ref 14), (1, .int k)]) (st' := [.int 0]) (w' := (SH, S, T)) rfl ?_
    exact xj_E.ret rfl rfl rfl rfl h
  · have h := h.2 q
    refine xj_E.adv 4 (pc' := (if xj_cmp .ge k (S 14 1) = true then 16 else 12)) (ls' := [(0, .ref 14), (1, .int k)]) (st' := []) (w' := (SH, S, T)) rfl ?_
    refine xj_E.b_ge (fun q => ?_) (fun q => ?_)
    · have h := h.1 q
      refine xj_E.adv 1 (pc' := 17) (ls' := [(0, .ref 14), (1, .int k)]) (st' := [.int 0]) (w' := (SH, S, T)) rfl ?_
      exact xj_E.ret rfl rfl rfl rfl h
    · have h := h.2 q
      refine xj_E.adv 2 (pc' := 17) (ls' := [(0, .ref 14), (1, .int k)]) (st' := [.int 1]) (w' := (SH, S, T)) rfl ?_
      exact xj_E.ret rfl rfl rfl rfl h
set_option maxRecDepth 100000 in
theorem wp_isFinal {L d : Nat} {xs : Nat → Int32} {S : Nat → Nat → Int32} {T : Nat → Nat → Int64} {P : (Option Value ⊕ Nat) → xj_W → Nat → Nat → Prop} {k : Int32} (h : vp_in k 40 ∧ (((S 17 k.toNatClampNeg) = 4 → (P (.inl (some (.int 1))) (SH, S, T) 0 0)) ∧ (¬ ((S 17 k.toNatClampNeg) = 4) → (vp_in k 40 ∧ (((S 17 k.toNatClampNeg) ≠ 5 → (P (.inl (some (.int 0))) (SH, S, T) 0 0)) ∧ (¬ ((S 17 k.toNatClampNeg) ≠ 5) → (P (.inl (some (.int 1))) (SH, S, T) 0 0))))))) : xj_E (xX L xs) d 5 0 [(0, .ref 14), (1, .int k)] [] (SH, S, T) P := by
  refine xj_E.adv 3 (pc' := 5) (ls' := [(0, .ref 14), (1, .int k)]) (st' := [.int k, .ref 17]) (w' := (SH, S, T)) rfl ?_
  refine xj_E.iald rfl rfl h.1 ?_
  have h := h.2
  refine xj_E.adv 2 (pc' := (if xj_cmp .eq (S 17 k.toNatClampNeg) 4 = true then 20 else 10)) (ls' := [(0, .ref 14), (1, .int k)]) (st' := []) (w' := (SH, S, T)) rfl ?_
  refine xj_E.b_eq (fun q => ?_) (fun q => ?_)
  · have h := h.1 q
    refine xj_E.adv 2 (pc' := 25) (ls' := [(0, .ref 14), (1, .int k)]) (st' := [.int 1]) (w' := (SH, S, T)) rfl ?_
    exact xj_E.ret rfl rfl rfl rfl h
  · have h := h.2 q
    refine xj_E.adv 3 (pc' := 15) (ls' := [(0, .ref 14), (1, .int k)]) (st' := [.int k, .ref 17]) (w' := (SH, S, T)) rfl ?_
    refine xj_E.iald rfl rfl h.1 ?_
    have h := h.2
    refine xj_E.adv 2 (pc' := (if xj_cmp .ne (S 17 k.toNatClampNeg) 5 = true then 24 else 20)) (ls' := [(0, .ref 14), (1, .int k)]) (st' := []) (w' := (SH, S, T)) rfl ?_
    refine xj_E.b_ne (fun q => ?_) (fun q => ?_)
    · have h := h.1 q
      refine xj_E.adv 1 (pc' := 25) (ls' := [(0, .ref 14), (1, .int k)]) (st' := [.int 0]) (w' := (SH, S, T)) rfl ?_
      exact xj_E.ret rfl rfl rfl rfl h
    · have h := h.2 q
      refine xj_E.adv 2 (pc' := 25) (ls' := [(0, .ref 14), (1, .int k)]) (st' := [.int 1]) (w' := (SH, S, T)) rfl ?_
      exact xj_E.ret rfl rfl rfl rfl h
set_option maxRecDepth 100000 in
theorem wp_add {L d : Nat} {xs : Nat → Int32} {S : Nat → Nat → Int32} {T : Nat → Nat → Int64} {P : (Option Value ⊕ Nat) → xj_W → Nat → Nat → Prop} {a b : Int32} (h : vp_in (S 14 1) 40 ∧ (vp_in (S 14 1) 40 ∧ (P (.inl (some (.int (((S 14 1) + 1) - 1)))) (SH, (xj_set (xj_set (xj_set S 15 (S 14 1).toNatClampNeg a) 16 (S 14 1).toNatClampNeg b) 14 1 ((S 14 1) + 1)), T) 0 0))) : xj_E (xX L xs) d 7 0 [(0, .ref 14), (1, .int a), (2, .int b)] [] (SH, S, T) P := by
  refine xj_E.adv 5 (pc' := 9) (ls' := [(0, .ref 14), (1, .int a), (2, .int b)]) (st' := [.int a, .int (S 14 1), .ref 15]) (w' := (SH, S, T)) rfl ?_
  refine xj_E.iast rfl rfl h.1 ?_
  have h := h.2
  refine xj_E.adv 5 (pc' := 19) (ls' := [(0, .ref 14), (1, .int a), (2, .int b)]) (st' := [.int b, .int (S 14 1), .ref 16]) (w' := (SH, (xj_set S 15 (S 14 1).toNatClampNeg a), T)) rfl ?_
  refine xj_E.iast rfl rfl h.1 ?_
  have h := h.2
  refine xj_E.adv 10 (pc' := 36) (ls' := [(0, .ref 14), (1, .int a), (2, .int b)]) (st' := [.int (((S 14 1) + 1) - 1)]) (w' := (SH, (xj_set (xj_set (xj_set S 15 (S 14 1).toNatClampNeg a) 16 (S 14 1).toNatClampNeg b) 14 1 ((S 14 1) + 1)), T)) rfl ?_
  exact xj_E.ret rfl rfl rfl rfl h
set_option maxRecDepth 100000 in
theorem wp_item {L d : Nat} {xs : Nat → Int32} {S : Nat → Nat → Int32} {T : Nat → Nat → Int64} {P : (Option Value ⊕ Nat) → xj_W → Nat → Nat → Prop} {a b c : Int32} (h : xj_E (xX L xs) d 3 0 [(0, .ref 14)] [] (SH, S, T) (xj_Ri SH (fun v3 S1 T2 => (v3 ≠ 0 → (P (.inr 0) (SH, S1, T2) 1 6)) ∧ (¬ (v3 ≠ 0) → (((S1 1 0) ≠ 12 → ((c < 0 → ((a < 0 → (P (.inr 1) (SH, S1, T2) 1 6)) ∧ (¬ (a < 0) → ((3 < a → (P (.inr 1) (SH, S1, T2) 1 6)) ∧ (¬ (3 < a) → (xj_E (xX L xs) d 13 0 [(0, .ref 1), (1, .int b)] [] (SH, S1, T2) (xj_Ri SH (fun v6 S4 T5 => (v6 = 0 → (P (.inr 1) (SH, S4, T5) 1 6)) ∧ (¬ (v6 = 0) → ((0 ≠ 0 → (xj_E (xX L xs) d 16 0 [(0, .ref 1), (1, .int a), (2, .int b), (3, .int c)] [] (SH, S4, T5) (xj_Ri SH (fun v9 S7 T8 => P (.inl (some (.int v9))) (SH, S7, T8) 0 0)))) ∧ (¬ (0 ≠ 0) → (P (.inr 1) (SH, S4, T5) 1 6)))))))))))) ∧ (¬ (c < 0) → ((15 < c → ((a < 0 → (P (.inr 1) (SH, S1, T2) 1 6)) ∧ (¬ (a < 0) → ((3 < a → (P (.inr 1) (SH, S1, T2) 1 6)) ∧ (¬ (3 < a) → (xj_E (xX L xs) d 13 0 [(0, .ref 1), (1, .int b)] [] (SH, S1, T2) (xj_Ri SH (fun v12 S10 T11 => (v12 = 0 → (P (.inr 1) (SH, S10, T11) 1 6)) ∧ (¬ (v12 = 0) → ((0 ≠ 0 → (xj_E (xX L xs) d 16 0 [(0, .ref 1), (1, .int a), (2, .int b), (3, .int c)] [] (SH, S10, T11) (xj_Ri SH (fun v15 S13 T14 => P (.inl (some (.int v15))) (SH, S13, T14) 0 0)))) ∧ (¬ (0 ≠ 0) → (P (.inr 1) (SH, S10, T11) 1 6)))))))))))) ∧ (¬ (15 < c) → (((c &&& 8) = 0 → ((a < 0 → (P (.inr 1) (SH, S1, T2) 1 6)) ∧ (¬ (a < 0) → ((3 < a → (P (.inr 1) (SH, S1, T2) 1 6)) ∧ (¬ (3 < a) → (xj_E (xX L xs) d 13 0 [(0, .ref 1), (1, .int b)] [] (SH, S1, T2) (xj_Ri SH (fun v18 S16 T17 => (v18 = 0 → (P (.inr 1) (SH, S16, T17) 1 6)) ∧ (¬ (v18 = 0) → ((1 ≠ 0 → (xj_E (xX L xs) d 16 0 [(0, .ref 1), (1, .int a), (2, .int b), (3, .int c)] [] (SH, S16, T17) (xj_Ri SH (fun v21 S19 T20 => P (.inl (some (.int v21))) (SH, S19, T20) 0 0)))) ∧ (¬ (1 ≠ 0) → (P (.inr 1) (SH, S16, T17) 1 6)))))))))))) ∧ (¬ ((c &&& 8) = 0) → ((a ≠ 0 → ((a < 0 → (P (.inr 1) (SH, S1, T2) 1 6)) ∧ (¬ (a < 0) → ((3 < a → (P (.inr 1) (SH, S1, T2) 1 6)) ∧ (¬ (3 < a) → (xj_E (xX L xs) d 13 0 [(0, .ref 1), (1, .int b)] [] (SH, S1, T2) (xj_Ri SH (fun v24 S22 T23 => (v24 = 0 → (P (.inr 1) (SH, S22, T23) 1 6)) ∧ (¬ (v24 = 0) → ((0 ≠ 0 → (xj_E (xX L xs) d 16 0 [(0, .ref 1), (1, .int a), (2, .int b), (3, .int c)] [] (SH, S22, T23) (xj_Ri SH (fun v27 S25 T26 => P (.inl (some (.int v27))) (SH, S25, T26) 0 0)))) ∧ (¬ (0 ≠ 0) → (P (.inr 1) (SH, S22, T23) 1 6)))))))))))) ∧ (¬ (a ≠ 0) → ((a < 0 → (P (.inr 1) (SH, S1, T2) 1 6)) ∧ (¬ (a < 0) → ((3 < a → (P (.inr 1) (SH, S1, T2) 1 6)) ∧ (¬ (3 < a) → (xj_E (xX L xs) d 13 0 [(0, .ref 1), (1, .int b)] [] (SH, S1, T2) (xj_Ri SH (fun v30 S28 T29 => (v30 = 0 → (P (.inr 1) (SH, S28, T29) 1 6)) ∧ (¬ (v30 = 0) → ((1 ≠ 0 → (xj_E (xX L xs) d 16 0 [(0, .ref 1), (1, .int a), (2, .int b), (3, .int c)] [] (SH, S28, T29) (xj_Ri SH (fun v33 S31 T32 => P (.inl (some (.int v33))) (SH, S31, T32) 0 0)))) ∧ (¬ (1 ≠ 0) → (P (.inr 1) (SH, S28, T29) 1 6)))))))))))))))))))) ∧ (¬ ((S1 1 0) ≠ 12) → (P (.inr 0) (SH, S1, T2) 1 6))))))) : xj_E (xX L xs) (d + 1) 28 0 [(0, .ref 0), (1, .int a), (2, .int b), (3, .int c)] [] (SH, S, T) P := by
  refine xj_E.adv 2 (pc' := 4) (ls' := [(0, .ref 0), (1, .int a), (2, .int b), (3, .int c)]) (st' := [.ref 14]) (w' := (SH, S, T)) rfl ?_
  refine xj_E.calli (S := SH) rfl rfl rfl rfl rfl (xj_E.mono h ?_)
  rintro _ _ _ _ ⟨v3, S1, T2, rfl, rfl, rfl, rfl, h⟩
  refine ⟨v3, S1, T2, rfl, rfl, rfl, rfl, ?_⟩
  refine xj_E.adv 1 (pc' := (if xj_cmp .ne v3 0 = true then 22 else 10)) (ls' := [(0, .ref 0), (1, .int a), (2, .int b), (3, .int c)]) (st' := []) (w' := (SH, S1, T2)) rfl ?_
  refine xj_E.b_ne (fun q => ?_) (fun q => ?_)
  · have h := h.1 q
    exact xj_E.thr rfl rfl rfl rfl rfl h
  · have h := h.2 q
    refine xj_E.adv 5 (pc' := (if xj_cmp .ne (S1 1 0) 12 = true then 32 else 22)) (ls' := [(0, .ref 0), (1, .int a), (2, .int b), (3, .int c)]) (st' := []) (w' := (SH, S1, T2)) rfl ?_
    refine xj_E.b_ne (fun q => ?_) (fun q => ?_)
    · have h := h.1 q
      refine xj_E.adv 2 (pc' := (if xj_cmp .lt c 0 = true then 57 else 36)) (ls' := [(0, .ref 0), (1, .int a), (2, .int b), (3, .int c)]) (st' := []) (w' := (SH, S1, T2)) rfl ?_
      refine xj_E.b_lt (fun q => ?_) (fun q => ?_)
      · have h := h.1 q
        refine xj_E.adv 4 (pc' := (if xj_cmp .lt a 0 = true then 85 else 64)) (ls' := [(4, .int 0), (0, .ref 0), (1, .int a), (2, .int b), (3, .int c)]) (st' := []) (w' := (SH, S1, T2)) rfl ?_
        refine xj_E.b_lt (fun q => ?_) (fun q => ?_)
        · have h := h.1 q
          exact xj_E.thr rfl rfl rfl rfl rfl h
        · have h := h.2 q
          refine xj_E.adv 3 (pc' := (if xj_cmp .gt a 3 = true then 85 else 69)) (ls' := [(4, .int 0), (0, .ref 0), (1, .int a), (2, .int b), (3, .int c)]) (st' := []) (w' := (SH, S1, T2)) rfl ?_
          refine xj_E.b_gt (fun q => ?_) (fun q => ?_)
          · have h := h.1 q
            exact xj_E.thr rfl rfl rfl rfl rfl h
          · have h := h.2 q
            refine xj_E.adv 3 (pc' := 74) (ls' := [(4, .int 0), (0, .ref 0), (1, .int a), (2, .int b), (3, .int c)]) (st' := [.int b, .ref 1]) (w' := (SH, S1, T2)) rfl ?_
            refine xj_E.calli (S := SH) rfl rfl rfl rfl rfl (xj_E.mono h ?_)
            rintro _ _ _ _ ⟨v6, S4, T5, rfl, rfl, rfl, rfl, h⟩
            refine ⟨v6, S4, T5, rfl, rfl, rfl, rfl, ?_⟩
            refine xj_E.adv 1 (pc' := (if xj_cmp .eq v6 0 = true then 85 else 80)) (ls' := [(4, .int 0), (0, .ref 0), (1, .int a), (2, .int b), (3, .int c)]) (st' := []) (w' := (SH, S4, T5)) rfl ?_
            refine xj_E.b_eq (fun q => ?_) (fun q => ?_)
            · have h := h.1 q
              exact xj_E.thr rfl rfl rfl rfl rfl h
            · have h := h.2 q
              refine xj_E.adv 2 (pc' := (if xj_cmp .ne 0 0 = true then 95 else 85)) (ls' := [(4, .int 0), (0, .ref 0), (1, .int a), (2, .int b), (3, .int c)]) (st' := []) (w' := (SH, S4, T5)) rfl ?_
              refine xj_E.b_ne (fun q => ?_) (fun q => ?_)
              · have h := h.1 q
                refine xj_E.adv 5 (pc' := 102) (ls' := [(4, .int 0), (0, .ref 0), (1, .int a), (2, .int b), (3, .int c)]) (st' := [.int c, .int b, .int a, .ref 1]) (w' := (SH, S4, T5)) rfl ?_
                refine xj_E.calli (S := SH) rfl rfl rfl rfl rfl (xj_E.mono h ?_)
                rintro _ _ _ _ ⟨v9, S7, T8, rfl, rfl, rfl, rfl, h⟩
                refine ⟨v9, S7, T8, rfl, rfl, rfl, rfl, ?_⟩
                exact xj_E.ret rfl rfl rfl rfl h
              · have h := h.2 q
                exact xj_E.thr rfl rfl rfl rfl rfl h
      · have h := h.2 q
        refine xj_E.adv 3 (pc' := (if xj_cmp .gt c 15 = true then 57 else 42)) (ls' := [(0, .ref 0), (1, .int a), (2, .int b), (3, .int c)]) (st' := []) (w' := (SH, S1, T2)) rfl ?_
        refine xj_E.b_gt (fun q => ?_) (fun q => ?_)
        · have h := h.1 q
          refine xj_E.adv 4 (pc' := (if xj_cmp .lt a 0 = true then 85 else 64)) (ls' := [(4, .int 0), (0, .ref 0), (1, .int a), (2, .int b), (3, .int c)]) (st' := []) (w' := (SH, S1, T2)) rfl ?_
          refine xj_E.b_lt (fun q => ?_) (fun q => ?_)
          · have h := h.1 q
            exact xj_E.thr rfl rfl rfl rfl rfl h
          · have h := h.2 q
            refine xj_E.adv 3 (pc' := (if xj_cmp .gt a 3 = true then 85 else 69)) (ls' := [(4, .int 0), (0, .ref 0), (1, .int a), (2, .int b), (3, .int c)]) (st' := []) (w' := (SH, S1, T2)) rfl ?_
            refine xj_E.b_gt (fun q => ?_) (fun q => ?_)
            · have h := h.1 q
              exact xj_E.thr rfl rfl rfl rfl rfl h
            · have h := h.2 q
              refine xj_E.adv 3 (pc' := 74) (ls' := [(4, .int 0), (0, .ref 0), (1, .int a), (2, .int b), (3, .int c)]) (st' := [.int b, .ref 1]) (w' := (SH, S1, T2)) rfl ?_
              refine xj_E.calli (S := SH) rfl rfl rfl rfl rfl (xj_E.mono h ?_)
              rintro _ _ _ _ ⟨v12, S10, T11, rfl, rfl, rfl, rfl, h⟩
              refine ⟨v12, S10, T11, rfl, rfl, rfl, rfl, ?_⟩
              refine xj_E.adv 1 (pc' := (if xj_cmp .eq v12 0 = true then 85 else 80)) (ls' := [(4, .int 0), (0, .ref 0), (1, .int a), (2, .int b), (3, .int c)]) (st' := []) (w' := (SH, S10, T11)) rfl ?_
              refine xj_E.b_eq (fun q => ?_) (fun q => ?_)
              · have h := h.1 q
                exact xj_E.thr rfl rfl rfl rfl rfl h
              · have h := h.2 q
                refine xj_E.adv 2 (pc' := (if xj_cmp .ne 0 0 = true then 95 else 85)) (ls' := [(4, .int 0), (0, .ref 0), (1, .int a), (2, .int b), (3, .int c)]) (st' := []) (w' := (SH, S10, T11)) rfl ?_
                refine xj_E.b_ne (fun q => ?_) (fun q => ?_)
                · have h := h.1 q
                  refine xj_E.adv 5 (pc' := 102) (ls' := [(4, .int 0), (0, .ref 0), (1, .int a), (2, .int b), (3, .int c)]) (st' := [.int c, .int b, .int a, .ref 1]) (w' := (SH, S10, T11)) rfl ?_
                  refine xj_E.calli (S := SH) rfl rfl rfl rfl rfl (xj_E.mono h ?_)
                  rintro _ _ _ _ ⟨v15, S13, T14, rfl, rfl, rfl, rfl, h⟩
                  refine ⟨v15, S13, T14, rfl, rfl, rfl, rfl, ?_⟩
                  exact xj_E.ret rfl rfl rfl rfl h
                · have h := h.2 q
                  exact xj_E.thr rfl rfl rfl rfl rfl h
        · have h := h.2 q
          refine xj_E.adv 4 (pc' := (if xj_cmp .eq (c &&& 8) 0 = true then 53 else 49)) (ls' := [(0, .ref 0), (1, .int a), (2, .int b), (3, .int c)]) (st' := []) (w' := (SH, S1, T2)) rfl ?_
          refine xj_E.b_eq (fun q => ?_) (fun q => ?_)
          · have h := h.1 q
            refine xj_E.adv 5 (pc' := (if xj_cmp .lt a 0 = true then 85 else 64)) (ls' := [(4, .int 1), (0, .ref 0), (1, .int a), (2, .int b), (3, .int c)]) (st' := []) (w' := (SH, S1, T2)) rfl ?_
            refine xj_E.b_lt (fun q => ?_) (fun q => ?_)
            · have h := h.1 q
              exact xj_E.thr rfl rfl rfl rfl rfl h
            · have h := h.2 q
              refine xj_E.adv 3 (pc' := (if xj_cmp .gt a 3 = true then 85 else 69)) (ls' := [(4, .int 1), (0, .ref 0), (1, .int a), (2, .int b), (3, .int c)]) (st' := []) (w' := (SH, S1, T2)) rfl ?_
              refine xj_E.b_gt (fun q => ?_) (fun q => ?_)
              · have h := h.1 q
                exact xj_E.thr rfl rfl rfl rfl rfl h
              · have h := h.2 q
                refine xj_E.adv 3 (pc' := 74) (ls' := [(4, .int 1), (0, .ref 0), (1, .int a), (2, .int b), (3, .int c)]) (st' := [.int b, .ref 1]) (w' := (SH, S1, T2)) rfl ?_
                refine xj_E.calli (S := SH) rfl rfl rfl rfl rfl (xj_E.mono h ?_)
                rintro _ _ _ _ ⟨v18, S16, T17, rfl, rfl, rfl, rfl, h⟩
                refine ⟨v18, S16, T17, rfl, rfl, rfl, rfl, ?_⟩
                refine xj_E.adv 1 (pc' := (if xj_cmp .eq v18 0 = true then 85 else 80)) (ls' := [(4, .int 1), (0, .ref 0), (1, .int a), (2, .int b), (3, .int c)]) (st' := []) (w' := (SH, S16, T17)) rfl ?_
                refine xj_E.b_eq (fun q => ?_) (fun q => ?_)
                · have h := h.1 q
                  exact xj_E.thr rfl rfl rfl rfl rfl h
                · have h := h.2 q
                  refine xj_E.adv 2 (pc' := (if xj_cmp .ne 1 0 = true then 95 else 85)) (ls' := [(4, .int 1), (0, .ref 0), (1, .int a), (2, .int b), (3, .int c)]) (st' := []) (w' := (SH, S16, T17)) rfl ?_
                  refine xj_E.b_ne (fun q => ?_) (fun q => ?_)
                  · have h := h.1 q
                    refine xj_E.adv 5 (pc' := 102) (ls' := [(4, .int 1), (0, .ref 0), (1, .int a), (2, .int b), (3, .int c)]) (st' := [.int c, .int b, .int a, .ref 1]) (w' := (SH, S16, T17)) rfl ?_
                    refine xj_E.calli (S := SH) rfl rfl rfl rfl rfl (xj_E.mono h ?_)
                    rintro _ _ _ _ ⟨v21, S19, T20, rfl, rfl, rfl, rfl, h⟩
                    refine ⟨v21, S19, T20, rfl, rfl, rfl, rfl, ?_⟩
                    exact xj_E.ret rfl rfl rfl rfl h
                  · have h := h.2 q
                    exact xj_E.thr rfl rfl rfl rfl rfl h
          · have h := h.2 q
            refine xj_E.adv 2 (pc' := (if xj_cmp .ne a 0 = true then 57 else 53)) (ls' := [(0, .ref 0), (1, .int a), (2, .int b), (3, .int c)]) (st' := []) (w' := (SH, S1, T2)) rfl ?_
            refine xj_E.b_ne (fun q => ?_) (fun q => ?_)
            · have h := h.1 q
              refine xj_E.adv 4 (pc' := (if xj_cmp .lt a 0 = true then 85 else 64)) (ls' := [(4, .int 0), (0, .ref 0), (1, .int a), (2, .int b), (3, .int c)]) (st' := []) (w' := (SH, S1, T2)) rfl ?_
              refine xj_E.b_lt (fun q => ?_) (fun q => ?_)
              · have h := h.1 q
                exact xj_E.thr rfl rfl rfl rfl rfl h
              · have h := h.2 q
                refine xj_E.adv 3 (pc' := (if xj_cmp .gt a 3 = true then 85 else 69)) (ls' := [(4, .int 0), (0, .ref 0), (1, .int a), (2, .int b), (3, .int c)]) (st' := []) (w' := (SH, S1, T2)) rfl ?_
                refine xj_E.b_gt (fun q => ?_) (fun q => ?_)
                · have h := h.1 q
                  exact xj_E.thr rfl rfl rfl rfl rfl h
                · have h := h.2 q
                  refine xj_E.adv 3 (pc' := 74) (ls' := [(4, .int 0), (0, .ref 0), (1, .int a), (2, .int b), (3, .int c)]) (st' := [.int b, .ref 1]) (w' := (SH, S1, T2)) rfl ?_
                  refine xj_E.calli (S := SH) rfl rfl rfl rfl rfl (xj_E.mono h ?_)
                  rintro _ _ _ _ ⟨v24, S22, T23, rfl, rfl, rfl, rfl, h⟩
                  refine ⟨v24, S22, T23, rfl, rfl, rfl, rfl, ?_⟩
                  refine xj_E.adv 1 (pc' := (if xj_cmp .eq v24 0 = true then 85 else 80)) (ls' := [(4, .int 0), (0, .ref 0), (1, .int a), (2, .int b), (3, .int c)]) (st' := []) (w' := (SH, S22, T23)) rfl ?_
                  refine xj_E.b_eq (fun q => ?_) (fun q => ?_)
                  · have h := h.1 q
                    exact xj_E.thr rfl rfl rfl rfl rfl h
                  · have h := h.2 q
                    refine xj_E.adv 2 (pc' := (if xj_cmp .ne 0 0 = true then 95 else 85)) (ls' := [(4, .int 0), (0, .ref 0), (1, .int a), (2, .int b), (3, .int c)]) (st' := []) (w' := (SH, S22, T23)) rfl ?_
                    refine xj_E.b_ne (fun q => ?_) (fun q => ?_)
                    · have h := h.1 q
                      refine xj_E.adv 5 (pc' := 102) (ls' := [(4, .int 0), (0, .ref 0), (1, .int a), (2, .int b), (3, .int c)]) (st' := [.int c, .int b, .int a, .ref 1]) (w' := (SH, S22, T23)) rfl ?_
                      refine xj_E.calli (S := SH) rfl rfl rfl rfl rfl (xj_E.mono h ?_)
                      rintro _ _ _ _ ⟨v27, S25, T26, rfl, rfl, rfl, rfl, h⟩
                      refine ⟨v27, S25, T26, rfl, rfl, rfl, rfl, ?_⟩
                      exact xj_E.ret rfl rfl rfl rfl h
                    · have h := h.2 q
                      exact xj_E.thr rfl rfl rfl rfl rfl h
            · have h := h.2 q
              refine xj_E.adv 5 (pc' := (if xj_cmp .lt a 0 = true then 85 else 64)) (ls' := [(4, .int 1), (0, .ref 0), (1, .int a), (2, .int b), (3, .int c)]) (st' := []) (w' := (SH, S1, T2)) rfl ?_
              refine xj_E.b_lt (fun q => ?_) (fun q => ?_)
              · have h := h.1 q
                exact xj_E.thr rfl rfl rfl rfl rfl h
              · have h := h.2 q
                refine xj_E.adv 3 (pc' := (if xj_cmp .gt a 3 = true then 85 else 69)) (ls' := [(4, .int 1), (0, .ref 0), (1, .int a), (2, .int b), (3, .int c)]) (st' := []) (w' := (SH, S1, T2)) rfl ?_
                refine xj_E.b_gt (fun q => ?_) (fun q => ?_)
                · have h := h.1 q
                  exact xj_E.thr rfl rfl rfl rfl rfl h
                · have h := h.2 q
                  refine xj_E.adv 3 (pc' := 74) (ls' := [(4, .int 1), (0, .ref 0), (1, .int a), (2, .int b), (3, .int c)]) (st' := [.int b, .ref 1]) (w' := (SH, S1, T2)) rfl ?_
                  refine xj_E.calli (S := SH) rfl rfl rfl rfl rfl (xj_E.mono h ?_)
                  rintro _ _ _ _ ⟨v30, S28, T29, rfl, rfl, rfl, rfl, h⟩
                  refine ⟨v30, S28, T29, rfl, rfl, rfl, rfl, ?_⟩
                  refine xj_E.adv 1 (pc' := (if xj_cmp .eq v30 0 = true then 85 else 80)) (ls' := [(4, .int 1), (0, .ref 0), (1, .int a), (2, .int b), (3, .int c)]) (st' := []) (w' := (SH, S28, T29)) rfl ?_
                  refine xj_E.b_eq (fun q => ?_) (fun q => ?_)
                  · have h := h.1 q
                    exact xj_E.thr rfl rfl rfl rfl rfl h
                  · have h := h.2 q
                    refine xj_E.adv 2 (pc' := (if xj_cmp .ne 1 0 = true then 95 else 85)) (ls' := [(4, .int 1), (0, .ref 0), (1, .int a), (2, .int b), (3, .int c)]) (st' := []) (w' := (SH, S28, T29)) rfl ?_
                    refine xj_E.b_ne (fun q => ?_) (fun q => ?_)
                    · have h := h.1 q
                      refine xj_E.adv 5 (pc' := 102) (ls' := [(4, .int 1), (0, .ref 0), (1, .int a), (2, .int b), (3, .int c)]) (st' := [.int c, .int b, .int a, .ref 1]) (w' := (SH, S28, T29)) rfl ?_
                      refine xj_E.calli (S := SH) rfl rfl rfl rfl rfl (xj_E.mono h ?_)
                      rintro _ _ _ _ ⟨v33, S31, T32, rfl, rfl, rfl, rfl, h⟩
                      refine ⟨v33, S31, T32, rfl, rfl, rfl, rfl, ?_⟩
                      exact xj_E.ret rfl rfl rfl rfl h
                    · have h := h.2 q
                      exact xj_E.thr rfl rfl rfl rfl rfl h
    · have h := h.2 q
      exact xj_E.thr rfl rfl rfl rfl rfl h
end
section
/-- how deep calls may go, and the empty cells -/
abbrev xDep : Nat := 1000
def xW0 : xj_W := ([], fun _ _ => 0, fun _ _ => 0)
/-- THE PURE PART -/
theorem x_law (L : Nat) (xs : Nat → Int32) (hL : L ≤ 2560) : xj_E (xX L xs) xDep 0 0 [(0, .ref 1000)] [] xW0 (fun o _ c z => o = .inl (some (.int 1)) ∧ c ≤ 601024 ∧ z ≤ 7293034) := by
  sorry
/-! THE CLAIM OUT OF ONE WALK OF THE LAW'S BODY. Your part is whole_start (and what it stands on); all else here is the same for every law, but numbers. -/
def R_law : String := "CaseDeskLaw"
def lw_P (b : Addr) (xs : List Int32) (args : Array Value) (s : State) : Prop := args = #[.ref b] ∧ s.IntsAt b xs ∧ xs.length ≤ 2560 ∧ (Jvm.Cond.and given_1 narrow_1).before args s = true
def lw_Q (_ : Array Value) (s : State) (o : Outcome) (t : State) : Prop := o = .returned (some (.int 1)) ∧ Framed s o t [] 601024 7293034
def lw_Z (below : List Frame) (a : Array Value) (s : State) : State → Prop := fun t => ∃ o, t.status = .running ∧ Ended t below o ∧ lw_Q a s o t
/-- the law's own end, with 1 on the stack, nothing written that was there before, its room as the claim has it -/
theorem lw_ret {p : Program} {l : Launch} {e : Env} {s : State} {m : MethodId} {below : List Frame} {meth : Method} {c : Code} {b : Nat} (hx : p.tables.exec = Jvm.exec) (hb : c.code = code) (hr : meth.sig.returnType = ret) (hlocks : meth.locks = false) {pc : Nat} {H : Heap} {ls : Array Slot} (hdg : decode code pc = .ok (.ireturn, 1)) : W p l e room_1 s m #[Value.ref b] below meth c H [] 601024 7293034 (lw_Z below #[Value.ref b] s) (F0 m pc ls [.int 1]) := by
  intro T hT X
  obtain ⟨fs, hret, hrun, hended, hW, hframe⟩ := X.leave (v := some (.int 1)) (hlocks := hlocks) (fun h => by rw [hr] at h; cases h)
  have hmeth' : T.vm.method? m = some meth := X.method'
  refine ⟨T.setFrames fs, ?_, .returned (some (.int 1)), hrun, hended, rfl, ⟨_, rfl⟩, hW, hframe⟩
  jvm_step X.here [X.here.top, hx, hb, hdg, hmeth', hr, ret, narrow_b1]
  (try refine ⟨rfl, ?_⟩); (try refine ⟨rfl, ?_⟩)
  first | (intro acts; rw [hret _ acts rfl rfl rfl]) | rw [hret _ _ rfl rfl rfl]
  exact Steps.refl _
/-- what holds at the law's entry: the machine, the code, the tables' words (any of lw_tbl by 'hts w (by decide +kernel)'), the script of L ints xs at the cell b, what the Statement gives of the start (any of its parts by flat_of_before) -/
def lw_At (p : Program) (s : State) (m : MethodId) (meth : Method) (c : Code) (b L : Nat) (xs : Nat → Int32) : Prop :=
  p.tables.exec = Jvm.exec ∧ c.code = code ∧ meth.sig.returnType = ret ∧ c.maxLocals = 7 ∧ s.vm.findClass R_law = some m.cls ∧ (∀ w ∈ lw_tbl, w.before #[Value.ref b] s = true) ∧ va_X b L xs s s.heap ∧ b < s.heap.size ∧ meth.locks = false ∧ (Jvm.Cond.and given_1 narrow_1).before #[Value.ref b] s = true ∧ meth.name = "law" ∧ c.exceptionTable.toList = []
theorem whole_start {p : Program} {e : Env} {s : State} {m : MethodId} {below : List Frame} {meth : Method} {c : Code} (l : Launch) (hlt : l.stackTraces = false) {b L : Nat} {xs : Nat → Int32} (hL : L ≤ 2560) (C0 : lw_At p s m meth c b L xs) : W p l e room_1 s m #[Value.ref b] below meth c s.heap [] 0 0 (lw_Z below #[Value.ref b] s) (entryFrame m ([Value.ref b] : List Value).toArray 7) := by
  obtain ⟨hx, hb, hr, hml, hown, hts, hX, hbl, hlocks, hgv, hname, htab⟩ := C0
  obtain ⟨D, cA, ad, had, hF⟩ := xFx0 hts hX hbl hgv
  obtain ⟨n, o, w', c1, z1, hrun, rfl, hc, hz⟩ := x_law L xs hL
  have hl0 := lv_entry [Value.ref b] (n := 7) (by decide)
  rw [lg_entry_eq]
  generalize (lg_sl [Value.ref b] ++ List.replicate (7 - (lg_sl [Value.ref b]).length) Slot.unset).toArray = la at hl0 ⊢
  have hl1 : lv_has la 7 (xj_cl ad [(0, .ref 1000)]) := by
    show lv_has la 7 [(0, .ref (ad 1000))]
    rw [had]
    exact hl0
  have hgo := xj_main (xGl L xs) hlt n xDep 0 0 [(0, .ref 1000)] [] xW0 (.inl (some (.int 1))) w' c1 z1 hrun D cA s.heap.size p e room_1 s m #[Value.ref b] below meth c 0 0 0 (lw_Z below #[Value.ref b] s) ad ad ⟨hx, hb, hml, hr, hlocks, hown, hname, fun w hw => hts w (xcm_in hw), htab⟩ hF (Nat.le_refl _) (Nat.zero_le _) xj_ag.rf (by decide) (by decide) (by rw [Nat.zero_add]; exact hc) (by rw [Nat.zero_add]; exact hz)
    (fun ad1 H locs la1 pc nx i st hag1 hP1 hD1 hS1 hd1 he1 => by
      obtain ⟨len, hdec, hfit⟩ := hd1
      unfold xj_end at he1
      split at he1
      · split at he1
        · cases he1
        · cases he1
      · rename_i v
        split at he1
        · rename_i hmt; cases hmt
        · split at he1
          · cases he1
            simp only [xj_fit, Bool.and_eq_true, decide_eq_true_eq] at hfit
            obtain ⟨rfl, rfl⟩ := hfit
            exact va_forget hS1.2.2 (W.widen (by rw [Nat.zero_add]; exact hc) (by rw [Nat.zero_add]; exact hz) (lw_ret hx hb hr hlocks hdec))
          · cases he1
        · cases he1
      · cases he1)
  exact hgo s.heap [] la hl1 (fun k q hq => by cases hq) ⟨fun i j p q h => (by cases h), fun k q hq => by cases hq⟩ va_S.rf
-- ===== YOUR PART ENDS =====
set_option maxHeartbeats 4000000 in
theorem lw_walk (l : Launch) (hlt : l.stackTraces = false) (b : Addr) (xs : List Int32) : MetFree l x (headSpec (Jvm.Cond.code x code maxLocals ret :: tables_1) room_1) (lw_P b xs) (fun _ _ _ _ _ => True) lw_Q := by
  refine MetFree.of_bodyS (code := code) (maxLocals := maxLocals) (ret := ret) (by decide) ?_ ?_
  · intro args s m h hn
    obtain ⟨meth, c, h1, h2, h3, h4, h5, h6, -, -⟩ := Cond.code_spec hn (atoms_spec (ws := Jvm.Cond.code x code maxLocals ret :: tables_1) h _ List.mem_cons_self)
    exact ⟨meth, c, h1, h2, h3, h4, h5, h6⟩
  · intro p e s m args below meth c s₁ B hml0 hP _
    obtain ⟨rfl, hx, hbd, hgv⟩ := hP
    obtain ⟨scr, harrAt, hlist, hof, hsmall⟩ := hx
    obtain ⟨hcb, hkn, -, -⟩ := State.arrayAt?_spec harrAt
    have hown : s.vm.findClass R_law = some m.cls := findClass_of_methodNamed B.named
    have hts0 : ∀ c ∈ (Jvm.Cond.code x code maxLocals ret :: tables_1), c.before #[Value.ref b] s = true := atoms_spec (ws := Jvm.Cond.code x code maxLocals ret :: tables_1) B.pre
    have hts : ∀ w ∈ lw_tbl, w.before #[Value.ref b] s = true := k2_hts_sels lw_privs (fun w hw => hts0 w (List.mem_cons_of_mem _ hw)) lw_privs_ok
    have hml : c.maxLocals = 7 := B.maxLocals_eq (hts0 _ List.mem_cons_self)
    have X₀ : Stand p l e room_1 s m #[Value.ref b] below meth c s₁ [] 0 0 := Stand.of_body B
    have hh0 : s₁.heap = s.heap := by rw [B.state]; rfl
    have hsz : scr.slots.size = xs.length := by rw [← Array.length_toList, hlist, List.length_map]
    have hval : ∀ j : Nat, j < xs.length → scr.slots[j]? = some (.int (xs.getD j 0)) := fun j hj => by
      rw [← Array.getElem?_toList, hlist]
      simp [hj]
    have hbl : b < s.heap.size := (Array.getElem?_eq_some_iff.mp hcb).1
    have hX : va_X b xs.length (fun j => xs.getD j 0) s s.heap := ⟨scr, hcb, hof, hkn, hsz, hval⟩
    have K : W p l e room_1 s m #[Value.ref b] below meth c s₁.heap [] 0 0 (lw_Z below #[Value.ref b] s) (entryFrame m ([Value.ref b] : List Value).toArray 7) := by
      rw [hh0]
      exact whole_start l hlt hbd ⟨B.exec, B.bytes, B.returns, hml, hown, hts, hX, hbl, B.notSynchronized, hgv, (name_of_methodNamed B.named B.method).1, by simpa using B.noHandlers (hts0 _ List.mem_cons_self)⟩
    obtain ⟨t, a1, o, b1, b2, b3⟩ := K s₁ rfl X₀
    exact ⟨t, o, a1, b1, b2, b3⟩
theorem lw_pre_spec {args : Array Value} {s : State} (h : (Jvm.Cond.and given_1 narrow_1).before args s = true) (hr : rest_1_c.before args s = true) : ∃ (b : Addr) (xs : List Int32), lw_P b xs args s := by
  have hs := flat_of_before _ h
  have hq := flat_of_before _ hr
  have hc : (Cond.count 1).before args s = true := hs _ (by decide +kernel)
  have harr : (Cond.arrayOf (.arg 0) .int).before args s = true := hs _ (by decide +kernel)
  have hle : (Cond.le (.length (.arg 0)) (.int 2560)).before args s = true := hs _ (by decide +kernel)
  have hlen : (Cond.isInt (.length (.arg 0))).before args s = true := hq _ (by decide +kernel)
  have hall : (Cond.all (.arg 0) (.isInt (.elem (.arg 0) (.index 0)))).before args s = true := hq _ (by decide +kernel)
  obtain ⟨b, xs, hb, hx⟩ := State.ints_of_pre rfl harr hlen hall
  have hsm : xs.length < 2 ^ 31 := hx.choose_spec.2.2.2
  have hev : (Term.length (.arg 0)).eval args s none [] s = some (.int xs.length.toInt32) := hx.length_eval hb
  have hv := Cond.le_ints hev (show (Term.int 2560).eval args s none [] s = some (.int 2560) from rfl)
  have hd : xs.length.toInt32 ≤ 2560 := by
    simpa [Cond.before, Cond.holds, hv] using hle
  have hN : xs.length ≤ 2560 := (Int32.ofNat_le_ofNat hsm (by decide)).mp (show Int32.ofNat xs.length ≤ Int32.ofNat 2560 from hd)
  exact ⟨b, xs, Cond.one_arg hc (show args[0]? = some (.ref b) from hb), hx, hN, h⟩
theorem lw_comes (l : Launch) (hlt : l.stackTraces = false) : Comes l x (Jvm.Cond.code x code maxLocals ret :: tables_1) room_1 (fun tb e args s => Calls_1 tb e args s ∧ rest_1 tb e args s ∧ Pre_1 tb e args s)
    (fun _ _ args s o t => lw_Q args s o t) := by
  intro p e ha hc hk s m args below hf hfit hheap happ hpre
  obtain ⟨b, xs, hP⟩ := lw_pre_spec hpre.2.2 hpre.2.1
  obtain ⟨k, o, h1, h2, h3, hQ⟩ := lw_walk l hlt b xs p e ha hc hk s m args below hf ((Spec.applies_iff_loose hf).mp happ).1 hP trivial
  exact ⟨k, o, h1, h2, h3, hQ⟩
theorem lw_frame {s t : State} {o : Outcome} {args : Array Value} (h : Framed s o t [] 601024 7293034) :
    Framed s o t (fieldLocs frame_1_writes args s ++ arrayLocs frame_1_arrays args s ++ staticLocs frame_1_statics s) 601024 7293034 := h
theorem lw_limb (L : Cond) (hL : ∀ (args : Array Value) (s t : State), L.after args s (.returned (some (.int 1))) t = true) :
    ArmFor flags0 classFile x code maxLocals ret World_1 tables_1 room_1 Calls_1 rest_1 Pre_1
      (fun tb e a s o t => postC L tb e a s o t ∧ Framed s o t (fieldLocs frame_1_writes a s ++ arrayLocs frame_1_arrays a s ++ staticLocs frame_1_statics s) 601024 7293034) := by
  intro l hfl _ _ p e ha hc hk s m args below hf hfit hheap happ hpre
  obtain ⟨k, o, h1, h2, h3, rfl, hF⟩ := lw_comes l (by rw [show l.stackTraces = (e.platform.stackTraces) by rw [ha.platform]]; exact Launch.traces_off hfl ha) p e ha hc hk s m args below hf hfit hheap happ hpre
  exact ⟨k, _, h1, h2, h3, hL args s _, lw_frame hF⟩
theorem i_vc : Claimed_1_1 ∧ Claimed_1_2 := ⟨lw_limb limb_1_1 (fun args s t => by simp [limb_1_1, Cond.after, Cond.holds, Cond.value]), lw_limb limb_1_2 (fun args s t => Cond.after_iff.mpr (by
  first | (rw [show limb_1_2 = Cond.eq .result (.int 1) from rfl, Cond.eq_ints (x := 1) (y := 1) rfl rfl]; simp; done) | (simp [limb_1_2, Cond.value, Term.eval]; done)))⟩
end
