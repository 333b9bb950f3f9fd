section
/-! A machine of our own over numbered cells: values are those of the model, but a reference is a number of a cell.
xj_W: the shapes of the cells, their ints, their longs. A shape: an array (type, length), or an object (number of its class, its fields: an int stands for a number, which lies in the ints). -/
abbrev xj_S : Type := (FieldType × Nat) ⊕ (Nat × List Value)
abbrev xj_W : Type := List xj_S × (Nat → Nat → Int32) × (Nat → Nat → Int64)
abbrev xj_F : Type := Nat × List (Nat × Value) × List Value × xj_W
/-- how a call ends: an answer, or the number of an exception's class; the cells behind it; cells and slots made -/
abbrev xj_R : Type := (Option Value ⊕ Nat) × xj_W × Nat × Nat
/-- tables: code (method, pc: instruction, next or target pc); fields (method, index: class, place, sort); calls (method, index: kind, callee, parameters); statics; new; throws; catches; given arrays; methods (class, answer's type); constants -/
abbrev xj_T : Type := (Nat → Nat → Option (Instr × Nat)) × (Nat → Nat → Option (Nat × Nat × Nat)) × (Nat → Nat → Option (Nat × Nat × Nat)) × (Nat → Nat → Option Nat) × (Nat → Nat → Option (Nat × List Value)) × (Nat → Nat → Option Nat) × (Nat → Nat → Nat → Option (Option Nat)) × (Nat → Option (Nat × (Nat → Int32))) × (Nat → Nat × Option FieldType)
abbrev xj_cd (X : xj_T) := X.1
abbrev xj_fl (X : xj_T) := X.2.1
abbrev xj_ml (X : xj_T) := X.2.2.1
abbrev xj_gs (X : xj_T) := X.2.2.2.1
abbrev xj_nw (X : xj_T) := X.2.2.2.2.1
abbrev xj_th (X : xj_T) := X.2.2.2.2.2.1
abbrev xj_ca (X : xj_T) := X.2.2.2.2.2.2.1
abbrev xj_gv (X : xj_T) := X.2.2.2.2.2.2.2.1
abbrev xj_mt (X : xj_T) := X.2.2.2.2.2.2.2.2
def xj_set (σ : Nat → Nat → Int32) (c k : Nat) (x : Int32) : Nat → Nat → Int32 := fun j => if j = c then upd (σ c) k x else σ j
def xj_setL (τ : Nat → Nat → Int64) (c k : Nat) (x : Int64) : Nat → Nat → Int64 := fun j => if j = c then vp_updL (τ c) k x else τ j
def xj_setA (σ : Nat → Nat → Int32) (c : Nat) (f : Nat → Int32) : Nat → Nat → Int32 := fun j => if j = c then f else σ j
/-- a store into the local i of one word -/
def xj_st1 (ls : List (Nat × Value)) (i : Nat) (v : Value) : List (Nat × Value) := (i, v) :: ls.filter (fun q => !(q.1 == i) && !(q.1 + 1 == i && q.2.category == 2))
def xj_const : Instr → Option Value
  | .iconst z => some (.int (Int32.ofInt z))
  | .bipush z => some (.int (Int8.ofInt z).toInt32)
  | .sipush z => some (.int (Int16.ofInt z).toInt32)
  | _ => none
def xj_load : Instr → Option (Bool × Nat)
  | .iload k => some (true, k)
  | .iload_n k => some (true, k.val)
  | .aload k => some (false, k)
  | .aload_n k => some (false, k.val)
  | _ => none
def xj_store : Instr → Option (Bool × Nat)
  | .istore k => some (true, k)
  | .istore_n k => some (true, k.val)
  | .astore k => some (false, k)
  | .astore_n k => some (false, k.val)
  | _ => none
def xj_sort : Bool → Value → Bool
  | true, .int _ => true
  | false, .ref _ => true
  | _, _ => false
def xj_op2 : Instr → Int32 → Int32 → Option Int32
  | .iadd, x, y => some (x + y)
  | .isub, x, y => some (x - y)
  | .imul, x, y => some (x * y)
  | .iand, x, y => some (x &&& y)
  | .ior, x, y => some (x ||| y)
  | .ixor, x, y => some (x ^^^ y)
  | .ishl, x, y => some (x <<< (y &&& 31))
  | .ishr, x, y => some (x >>> (y &&& 31))
  | .irem, x, y => if y = 0 then none else some (x - x / y * y)
  | .idiv, x, y => if y = 0 then none else some (x / y)
  | _, _, _ => none
def xj_stk : Instr → List Value → Option (List Value)
  | .dup, a :: r => if a.category = 1 then some (a :: a :: r) else none
  | .pop, a :: r => if a.category = 1 then some r else none
  | .dup_x1, a :: b :: r => if a.category = 1 ∧ b.category = 1 then some (a :: b :: a :: r) else none
  | .dup_x2, a :: b :: d :: r => if a.category = 1 ∧ b.category = 1 ∧ d.category = 1 then some (a :: b :: d :: a :: r) else none
  | .dup2, a :: b :: r => if a.category = 1 ∧ b.category = 1 then some (a :: b :: a :: b :: r) else none
  | _, _ => none
def xj_cmp : ClassFile.Cond → Int32 → Int32 → Bool
  | .eq, x, y => decide (x = y)
  | .ne, x, y => decide (x ≠ y)
  | .lt, x, y => decide (x < y)
  | .ge, x, y => decide (y ≤ x)
  | .gt, x, y => decide (y < x)
  | .le, x, y => decide (x ≤ y)
def xj_sA (i : Instr) (nx : Nat) (ls : List (Nat × Value)) (st : List Value) (w : xj_W) : Option xj_F :=
  match xj_const i with
  | some v => some (nx, ls, v :: st, w)
  | none => none
def xj_sB (i : Instr) (nx : Nat) (ls : List (Nat × Value)) (st : List Value) (w : xj_W) : Option xj_F :=
  match xj_load i with
  | some (b, k) => match ls.lookup k with
    | some v => if xj_sort b v = true then some (nx, ls, v :: st, w) else none
    | none => none
  | none => none
def xj_sC (i : Instr) (nx : Nat) (ls : List (Nat × Value)) (st : List Value) (w : xj_W) : Option xj_F :=
  match xj_store i, st with
  | some (b, k), v :: r => if xj_sort b v = true then some (nx, xj_st1 ls k v, r, w) else none
  | _, _ => none
def xj_sD (i : Instr) (nx : Nat) (ls : List (Nat × Value)) (st : List Value) (w : xj_W) : Option xj_F :=
  match i with
  | .iinc k z => match ls.lookup k with
    | some (.int x) => some (nx, xj_st1 ls k (.int (x + Int32.ofInt z)), st, w)
    | _ => none
  | _ => none
def xj_sE (i : Instr) (nx : Nat) (ls : List (Nat × Value)) (st : List Value) (w : xj_W) : Option xj_F :=
  match st with
  | .int y :: .int x :: r => match xj_op2 i x y with
    | some v => some (nx, ls, .int v :: r, w)
    | none => none
  | _ => none
def xj_sF (i : Instr) (nx : Nat) (ls : List (Nat × Value)) (st : List Value) (w : xj_W) : Option xj_F :=
  match xj_stk i st with
  | some st' => some (nx, ls, st', w)
  | none => none
def xj_sG (i : Instr) (nx pc : Nat) (ls : List (Nat × Value)) (st : List Value) (w : xj_W) : Option xj_F :=
  match i with
  | .goto _ => some (nx, ls, st, w)
  | .ifCond c _ => match st with
    | .int x :: r => some (if xj_cmp c x 0 = true then nx else pc + 3, ls, r, w)
    | _ => none
  | .if_icmp c _ => match st with
    | .int y :: .int x :: r => some (if xj_cmp c x y = true then nx else pc + 3, ls, r, w)
    | _ => none
  | _ => none
/-- where a jump by off lands -/
def xj_to (pc : Nat) (off : Int) : Option Nat := if 0 ≤ (pc : Int) + off then some ((pc : Int) + off).toNat else none
def xj_sH (i : Instr) (pc : Nat) (ls : List (Nat × Value)) (st : List Value) (w : xj_W) : Option xj_F :=
  match i, st with
  | .tableswitch dflt lo hi offs, .int x :: r =>
    if x.toInt < lo ∨ hi < x.toInt then (xj_to pc dflt).map fun t => (t, ls, r, w)
    else match offs[(x.toInt - lo).toNat]? with
      | some off => (xj_to pc off).map fun t => (t, ls, r, w)
      | none => none
  | .lookupswitch dflt ps, .int x :: r =>
    if (ps.toList.zip (ps.toList.drop 1)).all (fun (a, next) => a.1 < next.1) = true then (xj_to pc (Op.lookupswitch.offset ps.toList dflt x.toInt)).map fun t => (t, ls, r, w) else none
  | _, _ => none
def xj_sI (i : Instr) (nx : Nat) (ls : List (Nat × Value)) (st : List Value) (w : xj_W) : Option xj_F :=
  match i, st with
  | .i2l, .int x :: r => some (nx, ls, .long x.toInt64 :: r, w)
  | .lcmp, .long y :: .long x :: r => some (nx, ls, .int (lg_cmp x y) :: r, w)
  | .laload, .int j :: .ref c :: r => match w.1[c]? with
    | some (.inl (.long, n)) => if j < 0 ∨ n ≤ j.toNatClampNeg then none else some (nx, ls, .long (w.2.2 c j.toNatClampNeg) :: r, w)
    | _ => none
  | .lastore, .long x :: .int j :: .ref c :: r => match w.1[c]? with
    | some (.inl (.long, n)) => if j < 0 ∨ n ≤ j.toNatClampNeg then none else some (nx, ls, r, (w.1, w.2.1, xj_setL w.2.2 c j.toNatClampNeg x))
    | _ => none
  | _, _ => none
def xj_sJ (X : xj_T) (m : Nat) (i : Instr) (nx : Nat) (ls : List (Nat × Value)) (st : List Value) (w : xj_W) : Option xj_F :=
  match i, st with
  | .getfield ix, .ref c :: r => match xj_fl X m ix, w.1[c]? with
    | some (ci, k, _), some (.inr (cj, fs)) => if cj = ci then match fs[k]? with
        | some (.int _) => some (nx, ls, .int (w.2.1 c k) :: r, w)
        | some (.ref a) => some (nx, ls, .ref a :: r, w)
        | _ => none
      else none
    | _, _ => none
  | .putfield ix, .int x :: .ref c :: r => match xj_fl X m ix, w.1[c]? with
    | some (ci, k, so), some (.inr (cj, fs)) => if cj = ci then match fs[k]? with
        | some (.int _) => if so = 0 ∨ (so = 1 ∧ (x = 0 ∨ x = 1)) then some (nx, ls, r, (w.1, xj_set w.2.1 c k x, w.2.2)) else none
        | _ => none
      else none
    | _, _ => none
  | .putfield ix, .ref a :: .ref c :: r => match xj_fl X m ix, w.1[c]? with
    | some (ci, k, so), some (.inr (cj, fs)) => if cj = ci then match fs[k]? with
        | some .null => if so = 2 then some (nx, ls, r, (w.1.set c (.inr (cj, fs.set k (.ref a))), w.2.1, w.2.2)) else none
        | _ => none
      else none
    | _, _ => none
  | .getstatic ix, r => match xj_gs X m ix with
    | some a => some (nx, ls, .ref a :: r, w)
    | none => none
  | _, _ => none
def xj_sL (X : xj_T) (i : Instr) (nx : Nat) (ls : List (Nat × Value)) (st : List Value) (w : xj_W) : Option xj_F :=
  match i, st with
  | .iaload, .int j :: .ref c :: r => match w.1[c]? with
    | some (.inl (.int, n)) => if j < 0 ∨ n ≤ j.toNatClampNeg then none else some (nx, ls, .int (w.2.1 c j.toNatClampNeg) :: r, w)
    | some _ => none
    | none => match xj_gv X c with
      | some (n, f) => if j < 0 ∨ n ≤ j.toNatClampNeg then none else some (nx, ls, .int (f j.toNatClampNeg) :: r, w)
      | none => none
  | .baload, .int j :: .ref c :: r => match w.1[c]? with
    | some (.inl (.boolean, n)) => if j < 0 ∨ n ≤ j.toNatClampNeg then none else some (nx, ls, .int (w.2.1 c j.toNatClampNeg) :: r, w)
    | _ => none
  | .iastore, .int x :: .int j :: .ref c :: r => match w.1[c]? with
    | some (.inl (.int, n)) => if j < 0 ∨ n ≤ j.toNatClampNeg then none else some (nx, ls, r, (w.1, xj_set w.2.1 c j.toNatClampNeg x, w.2.2))
    | _ => none
  | .bastore, .int x :: .int j :: .ref c :: r => match w.1[c]? with
    | some (.inl (.boolean, n)) => if j < 0 ∨ n ≤ j.toNatClampNeg then none else some (nx, ls, r, (w.1, xj_set w.2.1 c j.toNatClampNeg (x &&& 1), w.2.2))
    | _ => none
  | .arraylength, .ref c :: r => match w.1[c]? with
    | some (.inl (.int, n)) => some (nx, ls, .int (Int32.ofNat n) :: r, w)
    | some _ => none
    | none => match xj_gv X c with
      | some (n, _) => some (nx, ls, .int (Int32.ofNat n) :: r, w)
      | none => none
  | _, _ => none
/-- Object.<init> (kind 9), System.arraycopy of ints (kind 8) -/
def xj_sM (X : xj_T) (m : Nat) (i : Instr) (nx : Nat) (ls : List (Nat × Value)) (st : List Value) (w : xj_W) : Option xj_F :=
  match i, st with
  | .invokespecial ix, .ref _ :: r => match xj_ml X m ix with
    | some (9, _, _) => if (r.map fun v => v.category).sum ≤ 8 then some (nx, ls, r, w) else none
    | _ => none
  | .invokestatic ix, .int n :: .int dp :: .ref b :: .int sp :: .ref a :: r => match xj_ml X m ix, w.1[a]?, w.1[b]? with
    | some (8, _, _), some (.inl (.int, na)), some (.inl (.int, nb)) =>
      if sp < 0 ∨ dp < 0 ∨ n < 0 ∨ na < sp.toNatClampNeg + n.toNatClampNeg ∨ nb < dp.toNatClampNeg + n.toNatClampNeg ∨ 8 < (r.map fun v => v.category).sum then none
      else some (nx, ls, r, (w.1, xj_setA w.2.1 b (va_cpy (w.2.1 a) (w.2.1 b) sp.toNatClampNeg dp.toNatClampNeg n.toNatClampNeg), w.2.2))
    | _, _, _ => none
  | _, _ => none
def xj_or (a b : Option xj_F) : Option xj_F := match a with
  | some r => some r
  | none => b
def xj_step (X : xj_T) (m : Nat) (i : Instr) (nx pc : Nat) (ls : List (Nat × Value)) (st : List Value) (w : xj_W) : Option xj_F :=
  xj_or (xj_sA i nx ls st w) (xj_or (xj_sB i nx ls st w) (xj_or (xj_sC i nx ls st w) (xj_or (xj_sD i nx ls st w) (xj_or (xj_sE i nx ls st w) (xj_or (xj_sF i nx ls st w) (xj_or (xj_sG i nx pc ls st w)
    (xj_or (xj_sJ X m i nx ls st w) (xj_or (xj_sL X i nx ls st w) (xj_or (xj_sH i pc ls st w) (xj_or (xj_sI i nx ls st w) (xj_sM X m i nx ls st w)))))))))))
/-- the end of a call -/
def xj_end (X : xj_T) (m : Nat) (i : Instr) (st : List Value) (w : xj_W) : Option xj_R :=
  match i, st with
  | .return_, [] => match (xj_mt X m).2 with
    | none => some (.inl none, w, 0, 0)
    | some _ => none
  | .ireturn, [.int v] => match (xj_mt X m).2 with
    | some .int => some (.inl (some (.int v)), w, 0, 0)
    | some .boolean => if v = 0 ∨ v = 1 then some (.inl (some (.int v)), w, 0, 0) else none
    | _ => none
  | _, _ => none
/-- references that may be carried on while cells are made: below n, or given arrays -/
def xj_ok (n : Nat) : Value → Bool
  | .ref a => decide (a < n) || (decide (1000 ≤ a) && decide (a < 2000))
  | _ => true
def xj_one (av : List Value) : Bool := av.all fun v => v.category == 1
def xj_safe (n : Nat) (ls : List (Nat × Value)) (st : List Value) : Bool := ls.all (fun q => xj_ok n q.2) && st.all (xj_ok n)
/-- a call: kind (0 static, 1 on a receiver of the callee's class, 2 a constructor), callee, arguments, what is left on the stack -/
def xj_inv (X : xj_T) (m : Nat) (i : Instr) (st : List Value) (w : xj_W) : Option (Nat × Nat × List Value × List Value) :=
  match i with
  | .invokestatic ix => match xj_ml X m ix with
    | some (0, y, k) => if k ≤ st.length ∧ ((st.drop k).map fun v => v.category).sum ≤ 8 then some (0, y, (st.take k).reverse, st.drop k) else none
    | _ => none
  | .invokevirtual ix => match xj_ml X m ix with
    | some (1, y, k) => match st.drop k with
      | .ref c :: r => match w.1[c]? with
        | some (.inr (cj, _)) => if cj = (xj_mt X y).1 ∧ (r.map fun v => v.category).sum ≤ 8 then some (1, y, .ref c :: (st.take k).reverse, r) else none
        | _ => none
      | _ => none
    | _ => none
  | .invokespecial ix => match xj_ml X m ix with
    | some (2, y, k) => match st.drop k with
      | .ref c :: r => if (r.map fun v => v.category).sum ≤ 8 then some (2, y, .ref c :: (st.take k).reverse, r) else none
      | _ => none
    | _ => none
  | _ => none
/-- new cells: the type and the length, or the class and its fields -/
def xj_mk (X : xj_T) (m : Nat) (i : Instr) (st : List Value) : Option (xj_S × Nat × List Value) :=
  match i with
  | .new ix => match xj_nw X m ix with
    | some (ci, fs) => some (.inr (ci, fs), fs.length, st)
    | none => none
  | .newarray t => match st with
    | .int k :: r => if k < 0 ∨ 4096 < k.toNatClampNeg then none else match t with
      | .int => some (.inl (.int, k.toNatClampNeg), k.toNatClampNeg, r)
      | .boolean => some (.inl (.boolean, k.toNatClampNeg), k.toNatClampNeg, r)
      | .long => some (.inl (.long, k.toNatClampNeg), k.toNatClampNeg, r)
      | _ => none
    | _ => none
  | _ => none
def xj_add (c z : Nat) (r : Option xj_R) : Option xj_R := match r with
  | some (o, w, c1, z1) => some (o, w, c + c1, z + z1)
  | none => none
/-- no field leads out of the cells -/
def xj_wok (w : xj_W) : Bool := decide (w.1.length < 1000) && w.1.all fun sh => match sh with
  | .inr (_, fs) => fs.all (xj_ok w.1.length)
  | .inl _ => true
/-- one step of the machine, over what the rest does -/
def xj_lay (X : xj_T) (f : Nat → Nat → Nat → List (Nat × Value) → List Value → xj_W → Option xj_R) (d m pc : Nat) (ls : List (Nat × Value)) (st : List Value) (w : xj_W) : Option xj_R :=
  match xj_cd X m pc with
  | none => none
  | some (i, nx) =>
    match xj_step X m i nx pc ls st w with
    | some (pc', ls', st', w') => f d m pc' ls' st' w'
    | none =>
    match xj_inv X m i st w with
    | some (kd, y, av, rest) =>
      if d ≠ 0 ∧ xj_safe w.1.length ls rest = true ∧ xj_one av = true then
        match f (d - 1) y 0 (lv_args 0 av) [] w with
        | none => none
        | some (.inl v, w', c, z) => xj_add c z (f d m nx ls (v.toList ++ rest) w')
        | some (.inr q, w', c, z) => match xj_ca X m pc q with
          | some (some h) => if kd = 1 ∧ xj_wok w' = true then xj_add c z (f d m h ls [.ref 4096] w') else none
          | some none => if kd = 1 then some (.inr q, w', c, z) else none
          | none => none
      else none
    | none =>
    match xj_end X m i st w with
    | some r => some r
    | none =>
    match xj_th X m pc with
    | some q => if st.isEmpty = true then some (.inr q, w, 1, 6) else none
    | none =>
    match xj_mk X m i st with
    | some (sh, z, rest) =>
      if xj_safe w.1.length ls rest = true ∧ xj_wok w = true then
        xj_add 1 z (f d m nx ls (.ref w.1.length :: rest) (w.1 ++ [sh], xj_setA w.2.1 w.1.length (fun _ => 0), fun j => if j = w.1.length then (fun _ => 0) else w.2.2 j))
      else none
    | none => none
def xj_run (X : xj_T) : Nat → Nat → Nat → Nat → List (Nat × Value) → List Value → xj_W → Option xj_R
  | 0 => fun _ _ _ _ _ _ => none
  | n + 1 => xj_lay X (xj_run X n)
theorem xj_run_succ (X : xj_T) (n : Nat) : xj_run X (n + 1) = xj_lay X (xj_run X n) := rfl
theorem xj_add_some {c z : Nat} {r : Option xj_R} {q : xj_R} (h : xj_add c z r = some q) : ∃ o w c1 z1, r = some (o, w, c1, z1) ∧ q = (o, w, c + c1, z + z1) := by
  cases r with
  | none => simp [xj_add] at h
  | some p =>
    obtain ⟨o, w, c1, z1⟩ := p
    simp only [xj_add, Option.some.injEq] at h
    exact ⟨o, w, c1, z1, rfl, h.symm⟩
/-- more room changes no answer -/
theorem xj_mono (X : xj_T) : ∀ (n n' d d' m pc : Nat) (ls : List (Nat × Value)) (st : List Value) (w : xj_W) (r : xj_R), n ≤ n' → d ≤ d' → xj_run X n d m pc ls st w = some r → xj_run X n' d' m pc ls st w = some r := by
  intro n
  induction n with
  | zero => intro n' d d' m pc ls st w r _ _ h; simp [xj_run] at h
  | succ n ih =>
    intro n' d d' m pc ls st w r hn hd h
    cases n' with
    | zero => omega
    | succ n' =>
      have hn' : n ≤ n' := by omega
      rw [xj_run_succ] at h ⊢
      unfold xj_lay at h ⊢
      cases hcd : xj_cd X m pc with
      | none => simp [hcd] at h
      | some q =>
        obtain ⟨i, nx⟩ := q
        simp only [hcd] at h ⊢
        cases hs : xj_step X m i nx pc ls st w with
        | some f =>
          obtain ⟨pc', ls', st', w'⟩ := f
          simp only [hs] at h ⊢
          exact ih _ _ _ _ _ _ _ _ _ hn' hd h
        | none =>
          simp only [hs] at h ⊢
          cases hi : xj_inv X m i st w with
          | some f =>
            obtain ⟨kd, y, av, rest⟩ := f
            simp only [hi] at h ⊢
            by_cases hc : d ≠ 0 ∧ xj_safe w.1.length ls rest = true ∧ xj_one av = true
            · rw [if_pos hc] at h
              rw [if_pos ⟨by omega, hc.2⟩]
              cases hy : xj_run X n (d - 1) y 0 (lv_args 0 av) [] w with
              | none => simp [hy] at h
              | some f =>
                obtain ⟨o, w', c, z⟩ := f
                rw [ih _ _ _ _ _ _ _ _ _ hn' (by omega : d - 1 ≤ d' - 1) hy]
                simp only [hy] at h
                cases o with
                | inl v =>
                  simp only at h ⊢
                  obtain ⟨o, w1, c1, z1, h1, h2⟩ := xj_add_some h
                  rw [ih _ _ _ _ _ _ _ _ _ hn' hd h1, h2]
                  rfl
                | inr q =>
                  simp only at h ⊢
                  cases hca : xj_ca X m pc q with
                  | none => simp [hca] at h
                  | some hp0 =>
                   cases hp0 with
                   | none => simpa only [hca] using h
                   | some hp =>
                    simp only [hca] at h ⊢
                    split at h
                    · rename_i hwk
                      rw [if_pos hwk]
                      obtain ⟨o, w1, c1, z1, h1, h2⟩ := xj_add_some h
                      rw [ih _ _ _ _ _ _ _ _ _ hn' hd h1, h2]
                      rfl
                    · cases h
            · rw [if_neg hc] at h
              cases h
          | none =>
            simp only [hi] at h ⊢
            cases he : xj_end X m i st w with
            | some f => simpa only [he] using h
            | none =>
              simp only [he] at h ⊢
              cases ht : xj_th X m pc with
              | some q => simpa only [ht] using h
              | none =>
                simp only [ht] at h ⊢
                cases hk : xj_mk X m i st with
                | none => simp [hk] at h
                | some f =>
                  obtain ⟨sh, z, rest⟩ := f
                  simp only [hk] at h ⊢
                  by_cases hc : xj_safe w.1.length ls rest = true ∧ xj_wok w = true
                  · rw [if_pos hc] at h ⊢
                    obtain ⟨o, w1, c1, z1, h1, h2⟩ := xj_add_some h
                    rw [ih _ _ _ _ _ _ _ _ _ hn' hd h1, h2]
                    rfl
                  · rw [if_neg hc] at h
                    cases h
/-- from this frame our machine comes to an end with P -/
def xj_E (X : xj_T) (d m pc : Nat) (ls : List (Nat × Value)) (st : List Value) (w : xj_W) (P : (Option Value ⊕ Nat) → xj_W → Nat → Nat → Prop) : Prop :=
  ∃ (n : Nat) (o : Option Value ⊕ Nat) (w' : xj_W) (c z : Nat), xj_run X n d m pc ls st w = some (o, w', c, z) ∧ P o w' c z
theorem xj_E.mono {X : xj_T} {d m pc : Nat} {ls : List (Nat × Value)} {st : List Value} {w : xj_W} {P Q : (Option Value ⊕ Nat) → xj_W → Nat → Nat → Prop} (h : xj_E X d m pc ls st w P) (hPQ : ∀ o w c z, P o w c z → Q o w c z) : xj_E X d m pc ls st w Q := by
  obtain ⟨n, o, w', c, z, h1, h2⟩ := h
  exact ⟨n, o, w', c, z, h1, hPQ _ _ _ _ h2⟩
theorem xj_E.deep {X : xj_T} {d d' m pc : Nat} {ls : List (Nat × Value)} {st : List Value} {w : xj_W} {P : (Option Value ⊕ Nat) → xj_W → Nat → Nat → Prop} (h : xj_E X d m pc ls st w P) (hd : d ≤ d') : xj_E X d' m pc ls st w P := by
  obtain ⟨n, o, w', c, z, h1, h2⟩ := h
  exact ⟨n, o, w', c, z, xj_mono X _ _ _ _ _ _ _ _ _ _ (Nat.le_refl _) hd h1, h2⟩
/-- plain steps in a row -/
def xj_adv (X : xj_T) (m : Nat) : Nat → xj_F → Option xj_F
  | 0, f => some f
  | k + 1, (pc, ls, st, w) => match xj_cd X m pc with
    | none => none
    | some (i, nx) => match xj_step X m i nx pc ls st w with
      | some f => xj_adv X m k f
      | none => none
theorem xj_E.one {X : xj_T} {d m pc pc' nx : Nat} {ls ls' : List (Nat × Value)} {st st' : List Value} {w w' : xj_W} {P : (Option Value ⊕ Nat) → xj_W → Nat → Nat → Prop} {i : Instr} (hcd : xj_cd X m pc = some (i, nx)) (hs : xj_step X m i nx pc ls st w = some (pc', ls', st', w')) (h : xj_E X d m pc' ls' st' w' P) : xj_E X d m pc ls st w P := by
  obtain ⟨n, o, w1, c, z, h1, h2⟩ := h
  refine ⟨n + 1, o, w1, c, z, ?_, h2⟩
  rw [xj_run_succ]
  unfold xj_lay
  simp only [hcd, hs]
  exact h1
theorem xj_E.adv {X : xj_T} {d m : Nat} {P : (Option Value ⊕ Nat) → xj_W → Nat → Nat → Prop} : ∀ (k : Nat) {pc pc' : Nat} {ls ls' : List (Nat × Value)} {st st' : List Value} {w w' : xj_W}, xj_adv X m k (pc, ls, st, w) = some (pc', ls', st', w') → xj_E X d m pc' ls' st' w' P → xj_E X d m pc ls st w P := by
  intro k
  induction k with
  | zero =>
    intro pc pc' ls ls' st st' w w' h hE
    simp only [xj_adv, Option.some.injEq, Prod.mk.injEq] at h
    obtain ⟨rfl, rfl, rfl, rfl⟩ := h
    exact hE
  | succ k ih =>
    intro pc pc' ls ls' st st' w w' h hE
    simp only [xj_adv] at h
    cases hcd : xj_cd X m pc with
    | none => simp [hcd] at h
    | some q =>
      obtain ⟨i, nx⟩ := q
      simp only [hcd] at h
      cases hs : xj_step X m i nx pc ls st w with
      | none => simp [hs] at h
      | some f =>
        obtain ⟨pc1, ls1, st1, w1⟩ := f
        simp only [hs] at h
        exact xj_E.one hcd hs (ih h hE)
theorem xj_E.ite {X : xj_T} {d m a b : Nat} {ls : List (Nat × Value)} {st : List Value} {w : xj_W} {P : (Option Value ⊕ Nat) → xj_W → Nat → Nat → Prop} {c : Prop} [Decidable c] (ht : c → xj_E X d m a ls st w P) (hf : ¬ c → xj_E X d m b ls st w P) : xj_E X d m (if c then a else b) ls st w P := by
  by_cases h : c
  · rw [if_pos h]; exact ht h
  · rw [if_neg h]; exact hf h
theorem xj_E.ret {X : xj_T} {d m pc nx : Nat} {ls : List (Nat × Value)} {st : List Value} {w w' : xj_W} {P : (Option Value ⊕ Nat) → xj_W → Nat → Nat → Prop} {i : Instr} {o : Option Value ⊕ Nat} {c z : Nat} (hcd : xj_cd X m pc = some (i, nx)) (hs : xj_step X m i nx pc ls st w = none) (hi : xj_inv X m i st w = none) (he : xj_end X m i st w = some (o, w', c, z)) (h : P o w' c z) : xj_E X d m pc ls st w P := by
  refine ⟨1, o, w', c, z, ?_, h⟩
  rw [xj_run_succ]
  unfold xj_lay
  simp only [hcd, hs, hi, he]
theorem xj_E.thr {X : xj_T} {d m pc nx : Nat} {ls : List (Nat × Value)} {w : xj_W} {P : (Option Value ⊕ Nat) → xj_W → Nat → Nat → Prop} {i : Instr} {q : Nat} (hcd : xj_cd X m pc = some (i, nx)) (hs : xj_step X m i nx pc ls [] w = none) (hi : xj_inv X m i [] w = none) (he : xj_end X m i [] w = none) (ht : xj_th X m pc = some q) (h : P (.inr q) w 1 6) : xj_E X d m pc ls [] w P := by
  refine ⟨1, .inr q, w, 1, 6, ?_, h⟩
  rw [xj_run_succ]
  unfold xj_lay
  simp only [hcd, hs, hi, he, ht, List.isEmpty_nil, if_true]
theorem xj_E.call {X : xj_T} {d m pc nx kd y : Nat} {ls : List (Nat × Value)} {st av rest : List Value} {w : xj_W} {P : (Option Value ⊕ Nat) → xj_W → Nat → Nat → Prop} {i : Instr} (hcd : xj_cd X m pc = some (i, nx)) (hs : xj_step X m i nx pc ls st w = none) (hi : xj_inv X m i st w = some (kd, y, av, rest)) (hsf : xj_safe w.1.length ls rest = true) (hon : xj_one av = true)
    (h : xj_E X d y 0 (lv_args 0 av) [] w (fun o w' c z => match o with
      | .inl v => xj_E X (d + 1) m nx ls (v.toList ++ rest) w' (fun o2 w2 c2 z2 => P o2 w2 (c + c2) (z + z2))
      | .inr q => kd = 1 ∧ match xj_ca X m pc q with
        | some (some hp) => xj_wok w' = true ∧ xj_E X (d + 1) m hp ls [.ref 4096] w' (fun o2 w2 c2 z2 => P o2 w2 (c + c2) (z + z2))
        | some none => P (.inr q) w' c z
        | none => False)) : xj_E X (d + 1) m pc ls st w P := by
  obtain ⟨n, o, w1, c, z, h1, h2⟩ := h
  cases o with
  | inl v =>
    obtain ⟨n2, o2, w2, c2, z2, h3, h4⟩ := h2
    refine ⟨max n n2 + 1, o2, w2, c + c2, z + z2, ?_, h4⟩
    rw [xj_run_succ]
    unfold xj_lay
    simp only [hcd, hs, hi]
    rw [if_pos ⟨by omega, hsf, hon⟩]
    have e1 := xj_mono X _ (max n n2) _ (d + 1 - 1) _ _ _ _ _ _ (Nat.le_max_left _ _) (Nat.le_refl d) h1
    have e2 := xj_mono X _ (max n n2) _ (d + 1) _ _ _ _ _ _ (Nat.le_max_right _ _) (Nat.le_refl _) h3
    simp only [e1, e2, xj_add]
  | inr q =>
    obtain ⟨hkd, h2⟩ := h2
    cases hca : xj_ca X m pc q with
    | none => simp [hca] at h2
    | some hp0 =>
     cases hp0 with
     | none =>
      simp only [hca] at h2
      refine ⟨n + 1, .inr q, w1, c, z, ?_, h2⟩
      rw [xj_run_succ]
      unfold xj_lay
      simp only [hcd, hs, hi]
      rw [if_pos ⟨by omega, hsf, hon⟩]
      have e1 := xj_mono X _ n _ (d + 1 - 1) _ _ _ _ _ _ (Nat.le_refl _) (Nat.le_refl d) h1
      simp only [e1, hca, hkd, if_true]
     | some hp =>
      simp only [hca] at h2
      obtain ⟨hwk, n2, o2, w2, c2, z2, h3, h4⟩ := h2
      refine ⟨max n n2 + 1, o2, w2, c + c2, z + z2, ?_, h4⟩
      rw [xj_run_succ]
      unfold xj_lay
      simp only [hcd, hs, hi]
      rw [if_pos ⟨by omega, hsf, hon⟩]
      have e1 := xj_mono X _ (max n n2) _ (d + 1 - 1) _ _ _ _ _ _ (Nat.le_max_left _ _) (Nat.le_refl d) h1
      have e2 := xj_mono X _ (max n n2) _ (d + 1) _ _ _ _ _ _ (Nat.le_max_right _ _) (Nat.le_refl _) h3
      simp only [e1, hca, hkd, hwk, and_self, if_true, e2, xj_add]
end
section
/-! What our machine's frames stand for, and that its plain steps are the model's. -/
def xj_cv (ad : Nat → Nat) : Value → Value
  | .ref a => .ref (ad a)
  | v => v
theorem xj_cv_cat (ad : Nat → Nat) (v : Value) : (xj_cv ad v).category = v.category := by cases v <;> rfl
def xj_cl (ad : Nat → Nat) (ls : List (Nat × Value)) : List (Nat × Value) := ls.map fun q => (q.1, xj_cv ad q.2)
/-- a field's value -/
def xj_fv (ad : Nat → Nat) (σ : Nat → Int32) (k : Nat) : Value → Value
  | .int _ => .int (σ k)
  | v => xj_cv ad v
def xj_cell (ad : Nat → Nat) (cA : FieldType → ClassId) (σ : Nat → Int32) (τ : Nat → Int64) : xj_S → va_E
  | .inl (.long, n) => .inl (cA .long, n, .inr (.inl τ))
  | .inl (ty, n) => .inl (cA ty, n, .inl σ)
  | .inr (ci, fs) => .inr (ci, fs.mapIdx (xj_fv ad σ))
def xj_cw (ad : Nat → Nat) (cA : FieldType → ClassId) (w : xj_W) : va_W := w.1.mapIdx fun c sh => (ad c, xj_cell ad cA (w.2.1 c) (w.2.2 c) sh)
theorem xj_cw_at {ad : Nat → Nat} {cA : FieldType → ClassId} {w : xj_W} {c : Nat} {sh : xj_S} (h : w.1[c]? = some sh) : (xj_cw ad cA w)[c]? = some (ad c, xj_cell ad cA (w.2.1 c) (w.2.2 c) sh) := by
  simp [xj_cw, List.getElem?_mapIdx, h]
/-- one cell's numbers change -/
theorem xj_cw_set {ad : Nat → Nat} {cA : FieldType → ClassId} {S S' : List xj_S} {σ σ' : Nat → Nat → Int32} {τ τ' : Nat → Nat → Int64} {c : Nat} {sh : xj_S} (hS : S' = S.set c sh) (h1 : ∀ j, j ≠ c → σ' j = σ j) (h2 : ∀ j, j ≠ c → τ' j = τ j) {e : va_E} (he : xj_cell ad cA (σ' c) (τ' c) sh = e) :
    xj_cw ad cA (S', σ', τ') = (xj_cw ad cA (S, σ, τ)).set c (ad c, e) := by
  subst hS
  subst he
  apply List.ext_getElem?
  intro j
  simp only [xj_cw, List.getElem?_mapIdx, List.getElem?_set, List.length_mapIdx]
  by_cases hj : c = j
  · subst hj
    by_cases hl : c < S.length
    · simp [hl]
    · simp [hl]
  · simp only [if_neg hj]
    cases hs : S[j]? with
    | none => rfl
    | some q => simp [h1 j (fun q => hj q.symm), h2 j (fun q => hj q.symm)]
theorem xj_set_same (σ : Nat → Nat → Int32) (c k : Nat) (x : Int32) : xj_set σ c k x c = upd (σ c) k x := by simp [xj_set]
theorem xj_set_ne (σ : Nat → Nat → Int32) {c j : Nat} (k : Nat) (x : Int32) (h : j ≠ c) : xj_set σ c k x j = σ j := by simp [xj_set, h]
theorem xj_setL_same (σ : Nat → Nat → Int64) (c k : Nat) (x : Int64) : xj_setL σ c k x c = vp_updL (σ c) k x := by simp [xj_setL]
theorem xj_setL_ne (σ : Nat → Nat → Int64) {c j : Nat} (k : Nat) (x : Int64) (h : j ≠ c) : xj_setL σ c k x j = σ j := by simp [xj_setL, h]
theorem xj_setA_same (σ : Nat → Nat → Int32) (c : Nat) (f : Nat → Int32) : xj_setA σ c f c = f := by simp [xj_setA]
theorem xj_setA_ne (σ : Nat → Nat → Int32) {c j : Nat} (f : Nat → Int32) (h : j ≠ c) : xj_setA σ c f j = σ j := by simp [xj_setA, h]
theorem xj_self {S : List xj_S} {c : Nat} {sh : xj_S} (h : S[c]? = some sh) : S = S.set c sh := by
  apply List.ext_getElem?
  intro j
  rw [List.getElem?_set]
  by_cases hj : c = j
  · subst hj
    obtain ⟨hl, he⟩ := List.getElem?_eq_some_iff.mp h
    rw [if_pos rfl, if_pos hl, h]
  · rw [if_neg hj]
theorem xj_mem {k : Nat} {v : Value} : ∀ {ls : List (Nat × Value)}, ls.lookup k = some v → (k, v) ∈ ls
  | [], h => by simp at h
  | (a, b) :: r, h => by
    rw [List.lookup_cons] at h
    by_cases hk : (k == a) = true
    · simp only [hk] at h
      have e : k = a := by simpa using hk
      cases h
      subst e
      exact List.mem_cons_self
    · have e : (k == a) = false := by simpa using hk
      simp only [e] at h
      exact List.mem_cons_of_mem _ (xj_mem h)
theorem xj_lk {ad : Nat → Nat} {la : Array Slot} {nL k : Nat} {ls : List (Nat × Value)} {v : Value} (hl : lv_has la nL (xj_cl ad ls)) (h : ls.lookup k = some v) : la[k]? = some (.val (xj_cv ad v)) :=
  hl.2.2 (k, xj_cv ad v) (List.mem_map.mpr ⟨(k, v), xj_mem h, rfl⟩)
theorem xj_cl_st1 (ad : Nat → Nat) (ls : List (Nat × Value)) (i : Nat) (v : Value) : (i, xj_cv ad v) :: (xj_cl ad ls).filter (fun q => !(q.1 == i) && !(q.1 + 1 == i && q.2.category == 2)) = xj_cl ad (xj_st1 ls i v) := by
  simp only [xj_cl, xj_st1, List.map_cons, List.filter_map]
  congr 1
  congr 1
  apply List.filter_congr
  intro q _
  simp only [Function.comp, xj_cv_cat]
def xj_len : Instr → Nat
  | .iconst _ | .iload_n _ | .aload_n _ | .istore_n _ | .astore_n _ => 1
  | .bipush _ | .iload _ | .aload _ | .istore _ | .astore _ | .newarray _ | .ldc _ => 2
  | .sipush _ | .iinc _ _ | .getfield _ | .putfield _ | .getstatic _ | .invokestatic _ | .invokevirtual _ | .invokespecial _ | .new _ => 3
  | _ => 1
/-- length and next place of an instruction, and the local that it stores into -/
def xj_fit (nL : Nat) (i : Instr) (pc nx len : Nat) : Bool :=
  match i with
  | .ifCond _ off => decide ((pc : Int) + off = (nx : Int)) && decide (len = 3)
  | .if_icmp _ off => decide ((pc : Int) + off = (nx : Int)) && decide (len = 3)
  | .goto off => decide ((pc : Int) + off = (nx : Int)) && decide (len = 3)
  | .tableswitch _ _ _ _ => true
  | .lookupswitch _ _ => true
  | .istore k => decide (nx = pc + 2) && decide (len = 2) && decide (k < nL)
  | .istore_n k => decide (nx = pc + 1) && decide (len = 1) && decide (k.val < nL)
  | .astore k => decide (nx = pc + 2) && decide (len = 2) && decide (k < nL)
  | .astore_n k => decide (nx = pc + 1) && decide (len = 1) && decide (k.val < nL)
  | .iinc k _ => decide (nx = pc + 3) && decide (len = 3) && decide (k < nL)
  | i => decide (nx = pc + xj_len i) && decide (len = xj_len i)
def xj_dec (cc : ByteArray) (nL pc : Nat) (i : Instr) (nx : Nat) : Prop := ∃ len, decode cc pc = .ok (i, len) ∧ xj_fit nL i pc nx len = true
section XJ1
variable {p : Program} {l : Launch} {e : Env} {R : Room} {s : State} {m : MethodId} {args : Array Value} {below : List Frame} {meth : Method} {c : Code} {cells slots : Nat} {Q : State → Prop}
variable {D : va_G} {cl : List vw_C} {cA : FieldType → ClassId} {A : Nat → Prop} {nL : Nat} {ad : Nat → Nat} {cc : ByteArray}
variable {i : Instr} {nx pc pc' : Nat} {ls ls' : List (Nat × Value)} {st st' : List Value} {w w' : xj_W}
/-- from this frame of ours, wherever its cells lie, the model comes to Q -/
def xj_Go (p : Program) (l : Launch) (e : Env) (R : Room) (s : State) (m : MethodId) (args : Array Value) (below : List Frame) (meth : Method) (c : Code) (cells slots : Nat) (Q : State → Prop) (D : va_G) (cl : List vw_C) (cA : FieldType → ClassId) (A : Nat → Prop) (nL : Nat) (ad : Nat → Nat) (pc : Nat) (ls : List (Nat × Value)) (st : List Value) (w : xj_W) : Prop :=
  ∀ (H : Heap) (locs : List Loc) (la : Array Slot), lv_has la nL (xj_cl ad ls) → va_P D cl (xj_cw ad cA w) H → va_D A (xj_cw ad cA w) → va_S A s.heap H locs → W p l e R s m args below meth c H locs cells slots Q (F0 m pc la (st.map (xj_cv ad)))
theorem xj_snA (hx : p.tables.exec = Jvm.exec) (hb : c.code = cc) (h : xj_sA i nx ls st w = some (pc', ls', st', w')) (hd : xj_dec cc nL pc i nx) (k : xj_Go p l e R s m args below meth c cells slots Q D cl cA A nL ad pc' ls' st' w') : xj_Go p l e R s m args below meth c cells slots Q D cl cA A nL ad pc ls st w := by
  unfold xj_sA at h
  split at h
  · rename_i v hv
    simp only [Option.some.injEq, Prod.mk.injEq] at h
    obtain ⟨rfl, rfl, rfl, rfl⟩ := h
    obtain ⟨len, hdec, hfit⟩ := hd
    intro H locs la hl hP hD hS
    have kk := k H locs la hl hP hD hS
    unfold xj_const at hv
    split at hv
    · cases hv
      simp only [xj_fit, Bool.and_eq_true, decide_eq_true_eq] at hfit
      obtain ⟨rfl, rfl⟩ := hfit
      exact lv_iconst hx hb hdec rfl kk
    · cases hv
      simp only [xj_fit, Bool.and_eq_true, decide_eq_true_eq] at hfit
      obtain ⟨rfl, rfl⟩ := hfit
      exact lv_bipush hx hb hdec rfl kk
    · cases hv
      simp only [xj_fit, Bool.and_eq_true, decide_eq_true_eq] at hfit
      obtain ⟨rfl, rfl⟩ := hfit
      exact lv_sipush hx hb hdec rfl kk
    · cases hv
  · cases h
theorem xj_snB (hx : p.tables.exec = Jvm.exec) (hb : c.code = cc) (h : xj_sB i nx ls st w = some (pc', ls', st', w')) (hd : xj_dec cc nL pc i nx) (k : xj_Go p l e R s m args below meth c cells slots Q D cl cA A nL ad pc' ls' st' w') : xj_Go p l e R s m args below meth c cells slots Q D cl cA A nL ad pc ls st w := by
  unfold xj_sB at h
  split at h
  · rename_i b j hv
    split at h
    · rename_i v hlk
      split at h
      · rename_i hso
        simp only [Option.some.injEq, Prod.mk.injEq] at h
        obtain ⟨rfl, rfl, rfl, rfl⟩ := h
        obtain ⟨len, hdec, hfit⟩ := hd
        intro H locs la hl hP hD hS
        have kk := k H locs la hl hP hD hS
        have hla := xj_lk hl hlk
        unfold xj_load at hv
        split at hv <;> cases hv
        · cases v <;> simp only [xj_sort, Bool.false_eq_true] at hso
          simp only [xj_fit, Bool.and_eq_true, decide_eq_true_eq] at hfit
          obtain ⟨rfl, rfl⟩ := hfit
          exact lv_iload hx hb hdec hla kk
        · cases v <;> simp only [xj_sort, Bool.false_eq_true] at hso
          simp only [xj_fit, Bool.and_eq_true, decide_eq_true_eq] at hfit
          obtain ⟨rfl, rfl⟩ := hfit
          exact lv_iload_n hx hb hdec rfl hla kk
        · cases v <;> simp only [xj_sort, Bool.false_eq_true] at hso
          simp only [xj_fit, Bool.and_eq_true, decide_eq_true_eq] at hfit
          obtain ⟨rfl, rfl⟩ := hfit
          exact lv_aload hx hb hdec hla kk
        · cases v <;> simp only [xj_sort, Bool.false_eq_true] at hso
          simp only [xj_fit, Bool.and_eq_true, decide_eq_true_eq] at hfit
          obtain ⟨rfl, rfl⟩ := hfit
          exact lv_aload_n hx hb hdec rfl hla kk
      · cases h
    · cases h
  · cases h
theorem xj_snC (hx : p.tables.exec = Jvm.exec) (hb : c.code = cc) (h : xj_sC i nx ls st w = some (pc', ls', st', w')) (hd : xj_dec cc nL pc i nx) (k : xj_Go p l e R s m args below meth c cells slots Q D cl cA A nL ad pc' ls' st' w') : xj_Go p l e R s m args below meth c cells slots Q D cl cA A nL ad pc ls st w := by
  unfold xj_sC at h
  split at h
  · rename_i b j v r hv
    split at h
    · rename_i hso
      simp only [Option.some.injEq, Prod.mk.injEq] at h
      obtain ⟨rfl, rfl, rfl, rfl⟩ := h
      obtain ⟨len, hdec, hfit⟩ := hd
      intro H locs la hl hP hD hS
      unfold xj_store at hv
      split at hv <;> cases hv
      · cases v <;> simp only [xj_sort, Bool.false_eq_true] at hso
        simp only [xj_fit, Bool.and_eq_true, decide_eq_true_eq] at hfit
        obtain ⟨⟨rfl, rfl⟩, hn⟩ := hfit
        exact lv_istore hx hb hdec hl hn rfl (fun la' hl' => k H locs la' (by rw [← xj_cl_st1]; exact hl') hP hD hS)
      · cases v <;> simp only [xj_sort, Bool.false_eq_true] at hso
        simp only [xj_fit, Bool.and_eq_true, decide_eq_true_eq] at hfit
        obtain ⟨⟨rfl, rfl⟩, hn⟩ := hfit
        exact lv_istore_n hx hb hdec rfl hl hn rfl (fun la' hl' => k H locs la' (by rw [← xj_cl_st1]; exact hl') hP hD hS)
      · cases v <;> simp only [xj_sort, Bool.false_eq_true] at hso
        simp only [xj_fit, Bool.and_eq_true, decide_eq_true_eq] at hfit
        obtain ⟨⟨rfl, rfl⟩, hn⟩ := hfit
        exact lv_astore hx hb hdec hl hn rfl (fun la' hl' => k H locs la' (by rw [← xj_cl_st1]; exact hl') hP hD hS)
      · cases v <;> simp only [xj_sort, Bool.false_eq_true] at hso
        simp only [xj_fit, Bool.and_eq_true, decide_eq_true_eq] at hfit
        obtain ⟨⟨rfl, rfl⟩, hn⟩ := hfit
        exact lv_astore_n hx hb hdec rfl hl hn rfl (fun la' hl' => k H locs la' (by rw [← xj_cl_st1]; exact hl') hP hD hS)
    · cases h
  · cases h
theorem xj_snD (hx : p.tables.exec = Jvm.exec) (hb : c.code = cc) (h : xj_sD i nx ls st w = some (pc', ls', st', w')) (hd : xj_dec cc nL pc i nx) (k : xj_Go p l e R s m args below meth c cells slots Q D cl cA A nL ad pc' ls' st' w') : xj_Go p l e R s m args below meth c cells slots Q D cl cA A nL ad pc ls st w := by
  unfold xj_sD at h
  split at h
  · rename_i j z
    split at h
    · rename_i x hlk
      simp only [Option.some.injEq, Prod.mk.injEq] at h
      obtain ⟨rfl, rfl, rfl, rfl⟩ := h
      obtain ⟨len, hdec, hfit⟩ := hd
      intro H locs la hl hP hD hS
      simp only [xj_fit, Bool.and_eq_true, decide_eq_true_eq] at hfit
      obtain ⟨⟨rfl, rfl⟩, hn⟩ := hfit
      have hm : (j, Value.int x) ∈ xj_cl ad ls := List.mem_map.mpr ⟨(j, .int x), xj_mem hlk, rfl⟩
      obtain ⟨q, hq⟩ := List.mem_iff_getElem?.mp hm
      exact lv_iinc hx hb hdec hl hq rfl hn rfl (fun la' hl' => k H locs la' (by rw [← xj_cl_st1]; exact hl') hP hD hS)
    · cases h
  · cases h
theorem xj_snE (hx : p.tables.exec = Jvm.exec) (hb : c.code = cc) (h : xj_sE i nx ls st w = some (pc', ls', st', w')) (hd : xj_dec cc nL pc i nx) (k : xj_Go p l e R s m args below meth c cells slots Q D cl cA A nL ad pc' ls' st' w') : xj_Go p l e R s m args below meth c cells slots Q D cl cA A nL ad pc ls st w := by
  unfold xj_sE at h
  split at h
  · rename_i y x r
    split at h
    · rename_i v hv
      simp only [Option.some.injEq, Prod.mk.injEq] at h
      obtain ⟨rfl, rfl, rfl, rfl⟩ := h
      obtain ⟨len, hdec, hfit⟩ := hd
      intro H locs la hl hP hD hS
      have kk := k H locs la hl hP hD hS
      unfold xj_op2 at hv
      split at hv
      case h_9 =>
        split at hv
        · cases hv
        · rename_i hne
          cases hv
          simp only [xj_fit, Bool.and_eq_true, decide_eq_true_eq] at hfit
          obtain ⟨rfl, rfl⟩ := hfit
          exact lv_irem hx hb hdec hne kk
      case h_10 =>
        split at hv
        · cases hv
        · rename_i hne
          cases hv
          simp only [xj_fit, Bool.and_eq_true, decide_eq_true_eq] at hfit
          obtain ⟨rfl, rfl⟩ := hfit
          exact lv_idiv hx hb hdec hne kk
      all_goals cases hv
      all_goals
        simp only [xj_fit, Bool.and_eq_true, decide_eq_true_eq] at hfit
        obtain ⟨rfl, rfl⟩ := hfit
        first
          | exact lv_iadd hx hb hdec kk
          | exact lv_isub hx hb hdec kk
          | exact lv_imul hx hb hdec kk
          | exact lv_iand hx hb hdec kk
          | exact lv_ior hx hb hdec kk
          | exact lv_ixor hx hb hdec kk
          | exact lv_ishl hx hb hdec kk
          | exact lv_ishr hx hb hdec kk
    · cases h
  · cases h
theorem xj_snF (hx : p.tables.exec = Jvm.exec) (hb : c.code = cc) (h : xj_sF i nx ls st w = some (pc', ls', st', w')) (hd : xj_dec cc nL pc i nx) (k : xj_Go p l e R s m args below meth c cells slots Q D cl cA A nL ad pc' ls' st' w') : xj_Go p l e R s m args below meth c cells slots Q D cl cA A nL ad pc ls st w := by
  unfold xj_sF at h
  split at h
  · rename_i st1 hv
    simp only [Option.some.injEq, Prod.mk.injEq] at h
    obtain ⟨rfl, rfl, rfl, rfl⟩ := h
    obtain ⟨len, hdec, hfit⟩ := hd
    intro H locs la hl hP hD hS
    have kk := k H locs la hl hP hD hS
    unfold xj_stk at hv
    split at hv <;> first | cases hv | (split at hv <;> cases hv)
    all_goals
      rename_i hc
      simp only [xj_fit, Bool.and_eq_true, decide_eq_true_eq] at hfit
      obtain ⟨rfl, rfl⟩ := hfit
      first
        | exact lv_dup hx hb hdec (by rw [xj_cv_cat]; exact hc) kk
        | exact lv_pop hx hb hdec (by rw [xj_cv_cat]; exact hc) kk
        | exact lv_dup_x1 hx hb hdec (by rw [xj_cv_cat]; exact hc.1) (by rw [xj_cv_cat]; exact hc.2) kk
        | exact lv_dup_x2 hx hb hdec (by rw [xj_cv_cat]; exact hc.1) (by rw [xj_cv_cat]; exact hc.2.1) (by rw [xj_cv_cat]; exact hc.2.2) kk
        | exact lv_dup2_11 hx hb hdec (by rw [xj_cv_cat]; exact hc.1) (by rw [xj_cv_cat]; exact hc.2) kk
  · cases h
theorem xj_snG (hx : p.tables.exec = Jvm.exec) (hb : c.code = cc) (h : xj_sG i nx pc ls st w = some (pc', ls', st', w')) (hd : xj_dec cc nL pc i nx) (k : xj_Go p l e R s m args below meth c cells slots Q D cl cA A nL ad pc' ls' st' w') : xj_Go p l e R s m args below meth c cells slots Q D cl cA A nL ad pc ls st w := by
  unfold xj_sG at h
  split at h
  · simp only [Option.some.injEq, Prod.mk.injEq] at h
    obtain ⟨rfl, rfl, rfl, rfl⟩ := h
    obtain ⟨len, hdec, hfit⟩ := hd
    intro H locs la hl hP hD hS
    have kk := k H locs la hl hP hD hS
    simp only [xj_fit, Bool.and_eq_true, decide_eq_true_eq] at hfit
    obtain ⟨ht, rfl⟩ := hfit
    exact lv_goto hx hb hdec ht kk
  · rename_i co off
    split at h
    · rename_i x r
      simp only [Option.some.injEq, Prod.mk.injEq] at h
      obtain ⟨rfl, rfl, rfl, rfl⟩ := h
      obtain ⟨len, hdec, hfit⟩ := hd
      intro H locs la hl hP hD hS
      have kk := k H locs la hl hP hD hS
      simp only [xj_fit, Bool.and_eq_true, decide_eq_true_eq] at hfit
      obtain ⟨ht, rfl⟩ := hfit
      cases co
      · exact lv_if_eq hx hb hdec ht (fun q => by rw [if_pos (by simpa [xj_cmp] using q)] at kk; exact kk) (fun q => by rw [if_neg (by simpa [xj_cmp] using q)] at kk; exact kk)
      · exact lv_if_ne hx hb hdec ht (fun q => by rw [if_pos (by simpa [xj_cmp] using q)] at kk; exact kk) (fun q => by rw [if_neg (by simpa [xj_cmp] using q)] at kk; exact kk)
      · exact lv_if_lt hx hb hdec ht (fun q => by rw [if_pos (by simpa only [xj_cmp, decide_eq_true_eq] using q)] at kk; exact kk) (fun q => by rw [if_neg (by simpa only [xj_cmp, decide_eq_true_eq] using q)] at kk; exact kk)
      · exact lv_if_ge hx hb hdec ht (fun q => by rw [if_pos (by simpa only [xj_cmp, decide_eq_true_eq] using q)] at kk; exact kk) (fun q => by rw [if_neg (by simpa only [xj_cmp, decide_eq_true_eq] using q)] at kk; exact kk)
      · exact lv_if_gt hx hb hdec ht (fun q => by rw [if_pos (by simpa only [xj_cmp, decide_eq_true_eq] using q)] at kk; exact kk) (fun q => by rw [if_neg (by simpa only [xj_cmp, decide_eq_true_eq] using q)] at kk; exact kk)
      · exact lv_if_le hx hb hdec ht (fun q => by rw [if_pos (by simpa only [xj_cmp, decide_eq_true_eq] using q)] at kk; exact kk) (fun q => by rw [if_neg (by simpa only [xj_cmp, decide_eq_true_eq] using q)] at kk; exact kk)
    · cases h
  · rename_i co off
    split at h
    · rename_i y x r
      simp only [Option.some.injEq, Prod.mk.injEq] at h
      obtain ⟨rfl, rfl, rfl, rfl⟩ := h
      obtain ⟨len, hdec, hfit⟩ := hd
      intro H locs la hl hP hD hS
      have kk := k H locs la hl hP hD hS
      simp only [xj_fit, Bool.and_eq_true, decide_eq_true_eq] at hfit
      obtain ⟨ht, rfl⟩ := hfit
      cases co
      · exact lv_icmp_eq hx hb hdec ht (fun q => by rw [if_pos (by simpa [xj_cmp] using q)] at kk; exact kk) (fun q => by rw [if_neg (by simpa [xj_cmp] using q)] at kk; exact kk)
      · exact lv_icmp_ne hx hb hdec ht (fun q => by rw [if_pos (by simpa [xj_cmp] using q)] at kk; exact kk) (fun q => by rw [if_neg (by simpa [xj_cmp] using q)] at kk; exact kk)
      · exact lv_icmp_lt hx hb hdec ht (fun q => by rw [if_pos (by simpa only [xj_cmp, decide_eq_true_eq] using q)] at kk; exact kk) (fun q => by rw [if_neg (by simpa only [xj_cmp, decide_eq_true_eq] using q)] at kk; exact kk)
      · exact lv_icmp_ge hx hb hdec ht (fun q => by rw [if_pos (by simpa only [xj_cmp, decide_eq_true_eq] using q)] at kk; exact kk) (fun q => by rw [if_neg (by simpa only [xj_cmp, decide_eq_true_eq] using q)] at kk; exact kk)
      · exact lv_icmp_gt hx hb hdec ht (fun q => by rw [if_pos (by simpa only [xj_cmp, decide_eq_true_eq] using q)] at kk; exact kk) (fun q => by rw [if_neg (by simpa only [xj_cmp, decide_eq_true_eq] using q)] at kk; exact kk)
      · exact lv_icmp_le hx hb hdec ht (fun q => by rw [if_pos (by simpa only [xj_cmp, decide_eq_true_eq] using q)] at kk; exact kk) (fun q => by rw [if_neg (by simpa only [xj_cmp, decide_eq_true_eq] using q)] at kk; exact kk)
    · cases h
  · cases h
end XJ1
end
section
/-! plain steps that read or write cells -/
theorem xj_fv_set {ad : Nat → Nat} {σ : Nat → Int32} {fs : List Value} {k : Nat} {y x : Int32} (h : fs[k]? = some (.int y)) : fs.mapIdx (xj_fv ad (upd σ k x)) = (fs.mapIdx (xj_fv ad σ)).set k (.int x) := by
  apply List.ext_getElem?
  intro j
  simp only [List.getElem?_mapIdx, List.getElem?_set, List.length_mapIdx]
  by_cases hj : k = j
  · subst hj
    have hl := (List.getElem?_eq_some_iff.mp h).1
    rw [if_pos rfl, if_pos hl, h]
    simp [xj_fv, upd]
  · simp only [if_neg hj]
    cases hs : fs[j]? with
    | none => rfl
    | some q =>
      have hj' : j ≠ k := fun e => hj e.symm
      cases q <;> simp [xj_fv, upd, hj']
theorem xj_fv_ref {ad : Nat → Nat} {σ : Nat → Int32} {fs : List Value} {k a : Nat} : (fs.set k (.ref a)).mapIdx (xj_fv ad σ) = (fs.mapIdx (xj_fv ad σ)).set k (.ref (ad a)) := by
  apply List.ext_getElem?
  intro j
  simp only [List.getElem?_mapIdx, List.getElem?_set, List.length_mapIdx]
  by_cases hj : k = j
  · subst hj
    by_cases hl : k < fs.length
    · simp [hl, xj_fv, xj_cv]
    · simp [hl]
  · simp only [if_neg hj]
abbrev xj_ty (cA : FieldType → ClassId) : List (ClassId × FieldType) := [(cA .int, .int), (cA .boolean, .boolean), (cA .long, .long)]
/-- what the tables say of a field's place -/
def xj_Fl (X : xj_T) (mi : Nat) (own name : String) (s : State) (args : Array Value) (Ts : List Jvm.Cond) (cl : List vw_C) : Prop :=
  ∀ ix ci k so, xj_fl X mi ix = some (ci, k, so) → ∃ (C : String) (T : u_T) (N : Nat) (ty0 : Nat → FieldType), cl[ci]? = some (C, T, N) ∧ (∀ w ∈ u_ws C T N, w ∈ Ts) ∧ (∀ k, k < N → parseFieldDescriptor (T k).2.2.1 = some (ty0 k)) ∧ (∀ a, a < N → ∀ b, b < N → a ≠ b → (T a).2.1 ≠ (T b).2.1) ∧ k < N ∧
    (Jvm.Cond.fieldLink own ix (T k).1 (T k).2.1 (T k).2.2.1).before args s = true ∧
    (so = 0 → ty0 k = .int ∧ (T k).2.2.2 = false) ∧ (so = 1 → ty0 k = .boolean ∧ (T k).2.2.2 = false) ∧ (so = 2 → ((∃ t, ty0 k = .array t) ∨ ∃ n, ty0 k = .object n) ∧ (T k).2.2.2 = true ∧ (T k).1 = own ∧ name = "<init>")
section XJ2
variable {p : Program} {l : Launch} {e : Env} {R : Room} {s : State} {m : MethodId} {args : Array Value} {below : List Frame} {meth : Method} {c : Code} {cells slots : Nat} {Q : State → Prop}
variable {D : va_G} {cl : List vw_C} {cA : FieldType → ClassId} {A : Nat → Prop} {nL : Nat} {ad : Nat → Nat} {cc : ByteArray}
variable {X : xj_T} {mi : Nat} {own : String} {Ts : List Jvm.Cond}
variable {i : Instr} {nx pc pc' : Nat} {ls ls' : List (Nat × Value)} {st st' : List Value} {w w' : xj_W}
theorem xj_to_some {pc t : Nat} {off : Int} (h : xj_to pc off = some t) : (pc : Int) + off = (t : Int) := by
  unfold xj_to at h
  split at h
  · cases h
    rename_i hp
    exact (Int.toNat_of_nonneg hp).symm
  · cases h
theorem xj_snH (hx : p.tables.exec = Jvm.exec) (hb : c.code = cc) (h : xj_sH i pc ls st w = some (pc', ls', st', w')) (hd : xj_dec cc nL pc i nx) (k : xj_Go p l e R s m args below meth c cells slots Q D cl cA A nL ad pc' ls' st' w') : xj_Go p l e R s m args below meth c cells slots Q D cl cA A nL ad pc ls st w := by
  obtain ⟨len, hdec, -⟩ := hd
  intro H locs la hl hP hD hS
  unfold xj_sH at h
  split at h
  · rename_i dflt lo hi offs x r
    split at h
    · rename_i hout
      obtain ⟨t, ht, he⟩ := Option.map_eq_some_iff.mp h
      simp only [Prod.mk.injEq] at he
      obtain ⟨rfl, rfl, rfl, rfl⟩ := he
      exact lv_tableOut hx hb hdec hout (xj_to_some ht) (k H locs la hl hP hD hS)
    · rename_i hin
      split at h
      · rename_i off ho
        obtain ⟨t, ht, he⟩ := Option.map_eq_some_iff.mp h
        simp only [Prod.mk.injEq] at he
        obtain ⟨rfl, rfl, rfl, rfl⟩ := he
        exact lv_tableIn hx hb hdec (fun q => hin (Or.inl q)) (fun q => hin (Or.inr q)) ho (xj_to_some ht) (k H locs la hl hP hD hS)
      · cases h
  · rename_i dflt ps x r
    split at h
    · rename_i hsorted
      obtain ⟨t, ht, he⟩ := Option.map_eq_some_iff.mp h
      simp only [Prod.mk.injEq] at he
      obtain ⟨rfl, rfl, rfl, rfl⟩ := he
      exact lv_lookup hx hb hdec hsorted rfl (xj_to_some ht) (k H locs la hl hP hD hS)
    · cases h
  · cases h
theorem xj_snI (hx : p.tables.exec = Jvm.exec) (hb : c.code = cc) (hK : va_K D cl (xj_ty cA) s) (h : xj_sI i nx ls st w = some (pc', ls', st', w')) (hd : xj_dec cc nL pc i nx) (k : xj_Go p l e R s m args below meth c cells slots Q D cl cA A nL ad pc' ls' st' w') : xj_Go p l e R s m args below meth c cells slots Q D cl cA A nL ad pc ls st w := by
  obtain ⟨len, hdec, hfit⟩ := hd
  intro H locs la hl hP hD hS
  unfold xj_sI at h
  split at h
  · simp only [Option.some.injEq, Prod.mk.injEq] at h
    obtain ⟨rfl, rfl, rfl, rfl⟩ := h
    simp only [xj_fit, Bool.and_eq_true, decide_eq_true_eq] at hfit
    obtain ⟨rfl, rfl⟩ := hfit
    exact lv_i2l hx hb hdec rfl (k H locs la hl hP hD hS)
  · simp only [Option.some.injEq, Prod.mk.injEq] at h
    obtain ⟨rfl, rfl, rfl, rfl⟩ := h
    simp only [xj_fit, Bool.and_eq_true, decide_eq_true_eq] at hfit
    obtain ⟨rfl, rfl⟩ := hfit
    exact W.lcmp hx hb hdec (k H locs la hl hP hD hS)
  · rename_i j a r
    split at h
    · rename_i n hsh
      split at h
      · cases h
      · rename_i hin
        simp only [Option.some.injEq, Prod.mk.injEq] at h
        obtain ⟨rfl, rfl, rfl, rfl⟩ := h
        simp only [xj_fit, Bool.and_eq_true, decide_eq_true_eq] at hfit
        obtain ⟨rfl, rfl⟩ := hfit
        exact va_lald hx hb hK hP a 2 (xj_cw_at hsh) rfl hin hdec (k H locs la hl hP hD hS)
    · cases h
  · rename_i x j a r
    split at h
    · rename_i n hsh
      split at h
      · cases h
      · rename_i hin
        simp only [Option.some.injEq, Prod.mk.injEq] at h
        obtain ⟨rfl, rfl, rfl, rfl⟩ := h
        simp only [xj_fit, Bool.and_eq_true, decide_eq_true_eq] at hfit
        obtain ⟨rfl, rfl⟩ := hfit
        have hcw := xj_cw_set (ad := ad) (cA := cA) (S := w.1) (S' := w.1) (σ := w.2.1) (σ' := w.2.1) (τ := w.2.2) (τ' := xj_setL w.2.2 a j.toNatClampNeg x) (c := a) (xj_self hsh) (fun _ _ => rfl) (fun q hq => xj_setL_ne _ _ _ hq) (e := .inl (cA .long, n, .inr (.inl (vp_updL (w.2.2 a) j.toNatClampNeg x)))) (by rw [xj_setL_same]; rfl)
        refine va_last hx hb hK hP hD hS a 2 (xj_cw_at hsh) rfl hin hdec fun H1 locs1 hP1 hD1 hS1 => ?_
        exact k H1 locs1 la hl (by rw [hcw]; exact hP1) (by rw [hcw]; exact hD1) hS1
    · cases h
  · cases h
theorem xj_snJ (hx : p.tables.exec = Jvm.exec) (hb : c.code = cc) (hts : ∀ w ∈ Ts, w.before args s = true) (hown : s.vm.findClass own = some m.cls) (hK : va_K D cl (xj_ty cA) s) (hF : xj_Fl X mi own meth.name s args Ts cl)
    (hG : ∀ ix a, xj_gs X mi ix = some a → ∀ (H : Heap) (locs : List Loc) (pc : Nat) (la : Array Slot) (rest : List Value), va_S A s.heap H locs → decode cc pc = .ok (.getstatic ix, 3) → W p l e R s m args below meth c H locs cells slots Q (F0 m (pc + 3) la (.ref (ad a) :: rest)) → W p l e R s m args below meth c H locs cells slots Q (F0 m pc la rest))
    (h : xj_sJ X mi i nx ls st w = some (pc', ls', st', w')) (hd : xj_dec cc nL pc i nx) (k : xj_Go p l e R s m args below meth c cells slots Q D cl cA A nL ad pc' ls' st' w') : xj_Go p l e R s m args below meth c cells slots Q D cl cA A nL ad pc ls st w := by
  obtain ⟨len, hdec, hfit⟩ := hd
  intro H locs la hl hP hD hS
  unfold xj_sJ at h
  split at h
  · rename_i ix a r
    split at h
    · rename_i ci kf so cj fs hfl hsh
      split at h
      · rename_i hcj
        subst hcj
        obtain ⟨C, T, N, ty0, q1, q2, q3, q4, q5, q6, -, -, -⟩ := hF _ _ _ _ hfl
        split at h
        · rename_i y hk
          simp only [Option.some.injEq, Prod.mk.injEq] at h
          obtain ⟨rfl, rfl, rfl, rfl⟩ := h
          simp only [xj_fit, Bool.and_eq_true, decide_eq_true_eq] at hfit
          obtain ⟨rfl, rfl⟩ := hfit
          exact va_get hx hb hts q2 hown hK hP a (xj_cw_at hsh) q1 kf q5 q6 (fun _ z => z) (by rw [List.getElem?_mapIdx, hk]; rfl) hdec (k H locs la hl hP hD hS)
        · rename_i b hk
          simp only [Option.some.injEq, Prod.mk.injEq] at h
          obtain ⟨rfl, rfl, rfl, rfl⟩ := h
          simp only [xj_fit, Bool.and_eq_true, decide_eq_true_eq] at hfit
          obtain ⟨rfl, rfl⟩ := hfit
          exact va_get hx hb hts q2 hown hK hP a (xj_cw_at hsh) q1 kf q5 q6 (fun _ z => z) (by rw [List.getElem?_mapIdx, hk]; rfl) hdec (k H locs la hl hP hD hS)
        · cases h
      · cases h
    · cases h
  · rename_i ix x a r
    split at h
    · rename_i ci kf so cj fs hfl hsh
      split at h
      · rename_i hcj
        subst hcj
        obtain ⟨C, T, N, ty0, q1, q2, q3, q4, q5, q6, t0, t1, -⟩ := hF _ _ _ _ hfl
        split at h
        · rename_i y hk
          split at h
          · rename_i hso
            simp only [Option.some.injEq, Prod.mk.injEq] at h
            obtain ⟨rfl, rfl, rfl, rfl⟩ := h
            simp only [xj_fit, Bool.and_eq_true, decide_eq_true_eq] at hfit
            obtain ⟨rfl, rfl⟩ := hfit
            have hcw := xj_cw_set (ad := ad) (cA := cA) (S := w.1) (S' := w.1) (σ := w.2.1) (σ' := xj_set w.2.1 a kf x) (τ := w.2.2) (τ' := w.2.2) (c := a) (xj_self hsh) (fun q hq => xj_set_ne _ _ _ hq) (fun _ _ => rfl) (e := .inr (cj, (fs.mapIdx (xj_fv ad (w.2.1 a))).set kf (.int x))) (by rw [xj_set_same]; show Sum.inr (cj, fs.mapIdx (xj_fv ad (upd (w.2.1 a) kf x))) = _; rw [xj_fv_set hk])
            have hlen : kf < (fs.mapIdx (xj_fv ad (w.2.1 a))).length := by rw [List.length_mapIdx]; exact (List.getElem?_eq_some_iff.mp hk).1
            rcases hso with rfl | ⟨rfl, hx01⟩
            · obtain ⟨ht, hfin⟩ := t0 rfl
              refine va_put hx hb hts q2 ty0 q3 q4 hown hK hP hD hS a (xj_cw_at hsh) q1 kf q5 q6 (fun _ z => z) hfin (ty := .int) (by rw [q3 kf q5, ht]) rfl rfl hlen hdec fun H1 locs1 hP1 hD1 hS1 => ?_
              exact k H1 locs1 la hl (by rw [hcw]; exact hP1) (by rw [hcw]; exact hD1) hS1
            · obtain ⟨ht, hfin⟩ := t1 rfl
              have hn : narrow .boolean (.int x) = .int x ∧ fits .boolean (.int x) = true := by
                rcases hx01 with rfl | rfl
                · exact ⟨rfl, rfl⟩
                · exact ⟨rfl, rfl⟩
              refine va_put hx hb hts q2 ty0 q3 q4 hown hK hP hD hS a (xj_cw_at hsh) q1 kf q5 q6 (fun _ z => z) hfin (ty := .boolean) (by rw [q3 kf q5, ht]) hn.1 hn.2 hlen hdec fun H1 locs1 hP1 hD1 hS1 => ?_
              exact k H1 locs1 la hl (by rw [hcw]; exact hP1) (by rw [hcw]; exact hD1) hS1
          · cases h
        · cases h
      · cases h
    · cases h
  · rename_i ix b a r
    split at h
    · rename_i ci kf so cj fs hfl hsh
      split at h
      · rename_i hcj
        subst hcj
        obtain ⟨C, T, N, ty0, q1, q2, q3, q4, q5, q6, -, -, t2⟩ := hF _ _ _ _ hfl
        split at h
        · rename_i hk
          split at h
          · rename_i hso
            simp only [Option.some.injEq, Prod.mk.injEq] at h
            obtain ⟨rfl, rfl, rfl, rfl⟩ := h
            simp only [xj_fit, Bool.and_eq_true, decide_eq_true_eq] at hfit
            obtain ⟨rfl, rfl⟩ := hfit
            obtain ⟨ht, hfin, hdecl, hini⟩ := t2 hso
            have hcw := xj_cw_set (ad := ad) (cA := cA) (S := w.1) (S' := w.1.set a (.inr (cj, fs.set kf (.ref b)))) (σ := w.2.1) (σ' := w.2.1) (τ := w.2.2) (τ' := w.2.2) (c := a) rfl (fun _ _ => rfl) (fun _ _ => rfl) (e := .inr (cj, (fs.mapIdx (xj_fv ad (w.2.1 a))).set kf (.ref (ad b)))) (by show Sum.inr (cj, (fs.set kf (.ref b)).mapIdx (xj_fv ad (w.2.1 a))) = _; rw [xj_fv_ref])
            have hlen : kf < (fs.mapIdx (xj_fv ad (w.2.1 a))).length := by rw [List.length_mapIdx]; exact (List.getElem?_eq_some_iff.mp hk).1
            have hn : narrow (ty0 kf) (.ref (ad b)) = .ref (ad b) ∧ fits (ty0 kf) (.ref (ad b)) = true := by
              rcases ht with ⟨t, ht⟩ | ⟨n, ht⟩
              · rw [ht]; exact ⟨rfl, rfl⟩
              · rw [ht]; exact ⟨rfl, rfl⟩
            refine va_putF hx hb hts q2 ty0 q3 q4 hown hK hP hD hS a (xj_cw_at hsh) q1 kf q5 q6 (fun _ z => z) hfin hini hdecl (q3 kf q5) hn.1 hn.2 hlen hdec fun H1 locs1 hP1 hD1 hS1 => ?_
            exact k H1 locs1 la hl (by rw [hcw]; exact hP1) (by rw [hcw]; exact hD1) hS1
          · cases h
        · cases h
      · cases h
    · cases h
  · rename_i ix
    split at h
    · rename_i a hgs
      simp only [Option.some.injEq, Prod.mk.injEq] at h
      obtain ⟨rfl, rfl, rfl, rfl⟩ := h
      simp only [xj_fit, Bool.and_eq_true, decide_eq_true_eq] at hfit
      obtain ⟨rfl, rfl⟩ := hfit
      exact hG _ _ hgs H locs pc la _ hS hdec (k H locs la hl hP hD hS)
    · cases h
  · cases h
theorem xj_snL (hx : p.tables.exec = Jvm.exec) (hb : c.code = cc) (hK : va_K D cl (xj_ty cA) s) (hV : ∀ a n f, xj_gv X a = some (n, f) → va_T .int (ad a) n (fun j => .int (f j)) A s s.heap)
    (h : xj_sL X i nx ls st w = some (pc', ls', st', w')) (hd : xj_dec cc nL pc i nx) (k : xj_Go p l e R s m args below meth c cells slots Q D cl cA A nL ad pc' ls' st' w') : xj_Go p l e R s m args below meth c cells slots Q D cl cA A nL ad pc ls st w := by
  obtain ⟨len, hdec, hfit⟩ := hd
  intro H locs la hl hP hD hS
  unfold xj_sL at h
  split at h
  · rename_i j a r
    split at h
    · rename_i n hsh
      split at h
      · cases h
      · rename_i hin
        simp only [Option.some.injEq, Prod.mk.injEq] at h
        obtain ⟨rfl, rfl, rfl, rfl⟩ := h
        simp only [xj_fit, Bool.and_eq_true, decide_eq_true_eq] at hfit
        obtain ⟨rfl, rfl⟩ := hfit
        exact va_iald hx hb hK hP a 0 (xj_cw_at hsh) rfl hin hdec (k H locs la hl hP hD hS)
    · cases h
    · split at h
      · rename_i n f hgv
        split at h
        · cases h
        · rename_i hin
          simp only [Option.some.injEq, Prod.mk.injEq] at h
          obtain ⟨rfl, rfl, rfl, rfl⟩ := h
          simp only [xj_fit, Bool.and_eq_true, decide_eq_true_eq] at hfit
          obtain ⟨rfl, rfl⟩ := hfit
          exact va_ti hx hb (hV _ _ _ hgv) hS hin rfl hdec (k H locs la hl hP hD hS)
      · cases h
  · rename_i j a r
    split at h
    · rename_i n hsh
      split at h
      · cases h
      · rename_i hin
        simp only [Option.some.injEq, Prod.mk.injEq] at h
        obtain ⟨rfl, rfl, rfl, rfl⟩ := h
        simp only [xj_fit, Bool.and_eq_true, decide_eq_true_eq] at hfit
        obtain ⟨rfl, rfl⟩ := hfit
        exact va_zald hx hb hK hP a 1 (xj_cw_at hsh) rfl hin hdec (k H locs la hl hP hD hS)
    · cases h
  · rename_i x j a r
    split at h
    · rename_i n hsh
      split at h
      · cases h
      · rename_i hin
        simp only [Option.some.injEq, Prod.mk.injEq] at h
        obtain ⟨rfl, rfl, rfl, rfl⟩ := h
        simp only [xj_fit, Bool.and_eq_true, decide_eq_true_eq] at hfit
        obtain ⟨rfl, rfl⟩ := hfit
        have hcw := xj_cw_set (ad := ad) (cA := cA) (S := w.1) (S' := w.1) (σ := w.2.1) (σ' := xj_set w.2.1 a j.toNatClampNeg x) (τ := w.2.2) (τ' := w.2.2) (c := a) (xj_self hsh) (fun q hq => xj_set_ne _ _ _ hq) (fun _ _ => rfl) (e := .inl (cA .int, n, .inl (upd (w.2.1 a) j.toNatClampNeg x))) (by rw [xj_set_same]; rfl)
        refine va_iast hx hb hK hP hD hS a 0 (xj_cw_at hsh) rfl hin hdec fun H1 locs1 hP1 hD1 hS1 => ?_
        exact k H1 locs1 la hl (by rw [hcw]; exact hP1) (by rw [hcw]; exact hD1) hS1
    · cases h
  · rename_i x j a r
    split at h
    · rename_i n hsh
      split at h
      · cases h
      · rename_i hin
        simp only [Option.some.injEq, Prod.mk.injEq] at h
        obtain ⟨rfl, rfl, rfl, rfl⟩ := h
        simp only [xj_fit, Bool.and_eq_true, decide_eq_true_eq] at hfit
        obtain ⟨rfl, rfl⟩ := hfit
        have hcw := xj_cw_set (ad := ad) (cA := cA) (S := w.1) (S' := w.1) (σ := w.2.1) (σ' := xj_set w.2.1 a j.toNatClampNeg (x &&& 1)) (τ := w.2.2) (τ' := w.2.2) (c := a) (xj_self hsh) (fun q hq => xj_set_ne _ _ _ hq) (fun _ _ => rfl) (e := .inl (cA .boolean, n, .inl (upd (w.2.1 a) j.toNatClampNeg (x &&& 1)))) (by rw [xj_set_same]; rfl)
        refine va_zast hx hb hK hP hD hS a 1 (xj_cw_at hsh) rfl hin hdec fun H1 locs1 hP1 hD1 hS1 => ?_
        exact k H1 locs1 la hl (by rw [hcw]; exact hP1) (by rw [hcw]; exact hD1) hS1
    · cases h
  · rename_i a r
    split at h
    · rename_i n hsh
      simp only [Option.some.injEq, Prod.mk.injEq] at h
      obtain ⟨rfl, rfl, rfl, rfl⟩ := h
      simp only [xj_fit, Bool.and_eq_true, decide_eq_true_eq] at hfit
      obtain ⟨rfl, rfl⟩ := hfit
      exact va_alen hx hb hK hP a 0 (xj_cw_at hsh) (ty := .int) rfl rfl hdec (k H locs la hl hP hD hS)
    · cases h
    · split at h
      · rename_i n f hgv
        simp only [Option.some.injEq, Prod.mk.injEq] at h
        obtain ⟨rfl, rfl, rfl, rfl⟩ := h
        simp only [xj_fit, Bool.and_eq_true, decide_eq_true_eq] at hfit
        obtain ⟨rfl, rfl⟩ := hfit
        exact va_tlen hx hb (hV _ _ _ hgv) hS rfl hdec (k H locs la hl hP hD hS)
      · cases h
  · cases h
theorem xj_snM (hx : p.tables.exec = Jvm.exec) (hb : c.code = cc) (hown : s.vm.findClass own = some m.cls) (hml : c.maxLocals = nL) (hK : va_K D cl (xj_ty cA) s) (hRf : 1 ≤ R.frames) (hRl : 64 ≤ R.locals)
    (hO : ∀ ix a b, xj_ml X mi ix = some (9, a, b) → (Jvm.Cond.methodLink own ix Lib.objectInit).before args s = true ∧ (Jvm.Cond.instanceMethod Lib.objectInit).before args s = true ∧ (Jvm.Cond.code Lib.objectInit ⟨#[0xb1]⟩ 1 none).before args s = true)
    (hC : ∀ ix a b, xj_ml X mi ix = some (8, a, b) → (Jvm.Cond.methodLink own ix arraycopyName).before args s = true ∧ (Jvm.Cond.native arraycopyName).before args s = true ∧ (Jvm.Cond.static arraycopyName).before args s = true ∧ (Jvm.Cond.initialized "java/lang/System").before args s = true)
    (h : xj_sM X mi i nx ls st w = some (pc', ls', st', w')) (hd : xj_dec cc nL pc i nx) (k : xj_Go p l e R s m args below meth c cells slots Q D cl cA A nL ad pc' ls' st' w') : xj_Go p l e R s m args below meth c cells slots Q D cl cA A nL ad pc ls st w := by
  obtain ⟨len, hdec, hfit⟩ := hd
  intro H locs la hl hP hD hS
  have hcat : ∀ r : List Value, ((r.map (xj_cv ad)).map fun v => v.category).sum = (r.map fun v => v.category).sum := by
    intro r
    rw [List.map_map]
    congr 1
    apply List.map_congr_left
    intro v _
    exact xj_cv_cat ad v
  unfold xj_sM at h
  split at h
  · rename_i ix a r
    split at h
    · rename_i q1 q2 hmlk
      split at h
      · rename_i hsum
        simp only [Option.some.injEq, Prod.mk.injEq] at h
        obtain ⟨rfl, rfl, rfl, rfl⟩ := h
        simp only [xj_fit, Bool.and_eq_true, decide_eq_true_eq] at hfit
        obtain ⟨rfl, rfl⟩ := hfit
        obtain ⟨o1, o2, o3⟩ := hO _ _ _ hmlk
        refine W.objInit hx hb hown o1 o2 o3 rfl (by rw [hml]; exact hl.1) rfl hdec hRf ?_ (k H locs la hl hP hD hS)
        have hm0 : (F0 m pc la (Value.ref (ad a) :: r.map (xj_cv ad))).monitorRoom = 0 := rfl
        have hc9 := hcat r
        show 2 * (F0 m pc la (Value.ref (ad a) :: r.map (xj_cv ad))).monitorRoom + ((r.map (xj_cv ad)).map fun v => v.category).sum + 12 ≤ R.locals
        rw [hm0, hc9]
        omega
      · cases h
    · cases h
  · rename_i ix n dp b sp a r
    split at h
    · rename_i q1 q2 na nb hmlk ha hbb
      split at h
      · cases h
      · rename_i hno
        simp only [Option.some.injEq, Prod.mk.injEq] at h
        obtain ⟨rfl, rfl, rfl, rfl⟩ := h
        simp only [xj_fit, Bool.and_eq_true, decide_eq_true_eq] at hfit
        obtain ⟨rfl, rfl⟩ := hfit
        obtain ⟨o1, o2, o3, o4⟩ := hC _ _ _ hmlk
        simp only [not_or] at hno
        obtain ⟨n1, n2, n3, n4, n5, n6⟩ := hno
        have hcw := xj_cw_set (ad := ad) (cA := cA) (S := w.1) (S' := w.1) (σ := w.2.1) (σ' := xj_setA w.2.1 b (va_cpy (w.2.1 a) (w.2.1 b) sp.toNatClampNeg dp.toNatClampNeg n.toNatClampNeg)) (τ := w.2.2) (τ' := w.2.2) (c := b) (xj_self hbb) (fun q hq => xj_setA_ne _ _ hq) (fun _ _ => rfl) (e := .inl (cA .int, nb, .inl (va_cpy (w.2.1 a) (w.2.1 b) sp.toNatClampNeg dp.toNatClampNeg n.toNatClampNeg))) (by rw [xj_setA_same]; rfl)
        have hw9 : nativeFrameWords "java/lang/System" "arraycopy" 5 ≤ 40 := by decide
        have hc9 := hcat r
        refine va_copyi hx hb (hml.trans hl.1.symm) hown o1 o2 o3 o4 hK hP hD hS a b 0 0 (xj_cw_at ha) (xj_cw_at hbb) rfl rfl rfl n1 n2 n3 (by omega) (by omega) (fun _ _ => rfl) hRf (by rw [hc9]; omega) hdec fun H1 locs1 hP1 hD1 hS1 => ?_
        exact k H1 locs1 la hl (by rw [hcw]; exact hP1) (by rw [hcw]; exact hD1) hS1
    · cases h
  · cases h
end XJ2
end
section
/-! all plain steps together -/
theorem xj_or_some {a b : Option xj_F} {f : xj_F} (h : xj_or a b = some f) : a = some f ∨ b = some f := by
  cases a with
  | some q => exact Or.inl h
  | none => exact Or.inr h
section XJ3
variable {p : Program} {l : Launch} {e : Env} {R : Room} {s : State} {m : MethodId} {args : Array Value} {below : List Frame} {meth : Method} {c : Code} {cells slots : Nat} {Q : State → Prop}
variable {D : va_G} {cl : List vw_C} {cA : FieldType → ClassId} {A : Nat → Prop} {nL : Nat} {ad : Nat → Nat} {cc : ByteArray}
variable {X : xj_T} {mi : Nat} {own : String} {Ts : List Jvm.Cond}
variable {i : Instr} {nx pc pc' : Nat} {ls ls' : List (Nat × Value)} {st st' : List Value} {w w' : xj_W}
/-- what the tables owe to a body of our method mi -/
def xj_Tb (X : xj_T) (mi : Nat) (own name : String) (cc : ByteArray) (nL : Nat) (s : State) (args : Array Value) (Ts : List Jvm.Cond) (cl : List vw_C) : Prop :=
  (∀ pc i nx, xj_cd X mi pc = some (i, nx) → xj_dec cc nL pc i nx) ∧ xj_Fl X mi own name s args Ts cl ∧
  (∀ ix a b, xj_ml X mi ix = some (9, a, b) → (Jvm.Cond.methodLink own ix Lib.objectInit).before args s = true ∧ (Jvm.Cond.instanceMethod Lib.objectInit).before args s = true ∧ (Jvm.Cond.code Lib.objectInit ⟨#[0xb1]⟩ 1 none).before args s = true) ∧
  (∀ ix a b, xj_ml X mi ix = some (8, a, b) → (Jvm.Cond.methodLink own ix arraycopyName).before args s = true ∧ (Jvm.Cond.native arraycopyName).before args s = true ∧ (Jvm.Cond.static arraycopyName).before args s = true ∧ (Jvm.Cond.initialized "java/lang/System").before args s = true)
theorem xj_snS (hx : p.tables.exec = Jvm.exec) (hb : c.code = cc) (hts : ∀ w ∈ Ts, w.before args s = true) (hown : s.vm.findClass own = some m.cls) (hml : c.maxLocals = nL) (hK : va_K D cl (xj_ty cA) s) (hRf : 1 ≤ R.frames) (hRl : 64 ≤ R.locals)
    (hT : xj_Tb X mi own meth.name cc nL s args Ts cl)
    (hG : ∀ ix a, xj_gs X mi ix = some a → ∀ (H : Heap) (locs : List Loc) (pc : Nat) (la : Array Slot) (rest : List Value), va_S A s.heap H locs → decode cc pc = .ok (.getstatic ix, 3) → W p l e R s m args below meth c H locs cells slots Q (F0 m (pc + 3) la (.ref (ad a) :: rest)) → W p l e R s m args below meth c H locs cells slots Q (F0 m pc la rest))
    (hV : ∀ a n f, xj_gv X a = some (n, f) → va_T .int (ad a) n (fun j => .int (f j)) A s s.heap)
    (hcd : xj_cd X mi pc = some (i, nx)) (h : xj_step X mi i nx pc ls st w = some (pc', ls', st', w'))
    (k : xj_Go p l e R s m args below meth c cells slots Q D cl cA A nL ad pc' ls' st' w') : xj_Go p l e R s m args below meth c cells slots Q D cl cA A nL ad pc ls st w := by
  obtain ⟨hdc, hF, hO, hC⟩ := hT
  have hd := hdc _ _ _ hcd
  unfold xj_step at h
  rcases xj_or_some h with h | h
  · exact xj_snA hx hb h hd k
  rcases xj_or_some h with h | h
  · exact xj_snB hx hb h hd k
  rcases xj_or_some h with h | h
  · exact xj_snC hx hb h hd k
  rcases xj_or_some h with h | h
  · exact xj_snD hx hb h hd k
  rcases xj_or_some h with h | h
  · exact xj_snE hx hb h hd k
  rcases xj_or_some h with h | h
  · exact xj_snF hx hb h hd k
  rcases xj_or_some h with h | h
  · exact xj_snG hx hb h hd k
  rcases xj_or_some h with h | h
  · exact xj_snJ hx hb hts hown hK hF hG h hd k
  rcases xj_or_some h with h | h
  · exact xj_snL hx hb hK hV h hd k
  rcases xj_or_some h with h | h
  · exact xj_snH hx hb h hd k
  rcases xj_or_some h with h | h
  · exact xj_snI hx hb hK h hd k
  · exact xj_snM hx hb hown hml hK hRf hRl hO hC h hd k
end XJ3
end
section
/-! ===== BEGIN words of one list among another's, by their places ===== -/
theorem goodIn_r {big : List Cond} (ws : List Cond) (ps : List Nat) (hp : ws = ps.filterMap (fun i => big[i]?)) (h : ws.all goodWord = true) : GoodIn big ws := by
  intro w hw
  have h1 := List.all_eq_true.mp h w hw
  rw [hp] at hw
  obtain ⟨i, -, hi⟩ := List.mem_filterMap.mp hw
  have hm : w ∈ big := by first | exact List.mem_of_getElem? hi | exact List.getElem?_mem hi
  exact ⟨hm, good_of_word h1⟩
theorem goodIn_app {big a b : List Cond} (ha : GoodIn big a) (hb : GoodIn big b) : GoodIn big (a ++ b) := fun w h => (List.mem_append.mp h).elim (ha w) (hb w)
theorem goodIn_ca {big a b : List Cond} {c : Cond} (ha : GoodIn big (c :: a)) (hb : GoodIn big b) : GoodIn big (c :: (a ++ b)) := fun w h => (List.mem_cons.mp h).elim (fun e => ha w (List.mem_cons.mpr (Or.inl e))) (fun h => (List.mem_append.mp h).elim (fun h => ha w (List.mem_cons.mpr (Or.inr h))) (hb w))
theorem goodIn_sub {big ws : List Cond} (hm : ∀ w ∈ ws, w ∈ big) (h : ws.all goodWord = true) : GoodIn big ws := fun w hw => ⟨hm w hw, good_of_word (List.all_eq_true.mp h w hw)⟩
/-! ===== END ===== -/

/-! ===== BEGIN exceptions that leave a method, and their catching by the caller (launches without stack traces) ===== -/
section VXA
/-! The laws vx_back, vx_callV, vx_callS, vx_callSW, vx_throw0, vx_throwS follow proofs of the library, with one case more: JvmDerived/Free/Laws.lean (Back.of_free), Shelf42/LK1.lean (callV, callS), Shelf/KitTraced.lean (throwNew0V, throwNewS). -/
/-- where a method has thrown q: the class by its name, the cell, what was written, the world -/
def vx_T (XC : String → State → State → Prop) (st : State) (q : Addr) (t : State) (mc ms : Nat) (free : Addr → Prop) : Prop :=
  ∃ (E : String) (ce : Cell) (L : List Loc), XC E st t ∧ t.heap[q]? = some ce ∧ ce.vm = .none ∧ st.vm.findClass E = some ce.cls ∧ st.WarmedH t.vm ∧ st.sameButNew ({ t with vm := st.vm } : State) L mc ms ∧ ∀ z ∈ L, free z.base
def vx_Q (Qc : Array Value → State → Outcome → State → Prop) (XC : String → State → State → Prop) (mc ms : Nat) (free : Addr → Prop) : Array Value → State → Outcome → State → Prop := fun a st o t =>
  (Qc a st o t ∧ ∃ L, FrameEnd st o t L mc ms ∧ ∀ q ∈ L, free q.base) ∨ ∃ q, o = .threw q ∧ vx_T XC st q t mc ms free
/-- a callee that returns or throws -/
def vx_Met (l : Launch) (y : MethodName) (ws : List Cond) (rm : Room) (Pc : Array Value → State → Prop) (Qc : Array Value → State → Outcome → State → Prop) (XC : String → State → State → Prop) (mc ms : Nat) (free : Addr → Prop) : Prop :=
  MetFree l y (headSpec ws rm) Pc (fun _ _ _ _ _ => True) (vx_Q Qc XC mc ms free)
def vx_Post (XC : String → State → State → Prop) (mc ms : Nat) (free : Addr → Prop) : Pt → Array Value → Addr → Pt → Prop := fun A a q B =>
  ∃ (g : JFrame) (mk : MethodId) (t : State) (L : List Loc) (E : String) (ce : Cell), B.U.heap = t.heap ∧ B.U.vm = t.vm ∧ XC E (A.U.calling g mk a) t ∧ t.heap[q]? = some ce ∧ ce.vm = .none ∧ A.U.vm.findClass E = some ce.cls ∧ B.locs = A.locs ++ L ∧ (∀ z ∈ L, free z.base) ∧ B.cells = A.cells + mc ∧ B.slots = A.slots + ms
def vx_Back (l : Launch) (R : Room) (p : Program) (e : Env) (below : List Frame) (s : State) (sargs : Array Value) (y : MethodName) (len W9 : Nat)
    (Pre : Pt → Array Value → Prop) (Post : Pt → Array Value → Option Value → Pt → Prop) (PostX : Pt → Array Value → Addr → Pt → Prop) : Prop :=
  ∀ (m : MethodId) (meth : Method) (c : Code) (A : Pt) (g : JFrame) (ig : Instr) (mk : MethodId) (a : Array Value),
    Stand p l e R s m sargs below meth c A.U A.locs A.cells A.slots → g.method = m → g.locals.size = c.maxLocals → decode c.code g.pc = .ok (ig, len) →
    2 * g.monitorRoom + (g.stack.map fun v => v.category).sum ≤ W9 → A.U.methodNamed? y = some mk → Pre A a →
    (∃ (v : Option Value) (B : Pt), Stand p l e R s m sargs below meth c B.U B.locs B.cells B.slots ∧ Post A a v B ∧
      Steps p.tables e below (doInvoke e (A.U.setTop g) [] mk a).1 (B.U.setTop { g with pc := g.pc + len, stack := v.toList ++ g.stack })) ∨
    (∃ (q : Addr) (B : Pt), Stand p l e R s m sargs below meth c B.U B.locs B.cells B.slots ∧ PostX A a q B ∧
      Steps p.tables e below (doInvoke e (A.U.setTop g) [] mk a).1 ((B.U.setTop g).pushFrame (.throwing q)))
section Payer
variable {l : Launch} {R : Room} {p : Program} {e : Env} {below : List Frame} {s : State} {sargs : Array Value} {y : MethodName} {len W9 : Nat}
theorem vx_back {ws : List Cond} {rm : Room} {Pc : Array Value → State → Prop} {Qc : Array Value → State → Outcome → State → Prop} {XC : String → State → State → Prop} {mc ms : Nat} {free : Addr → Prop} {bytes : ByteArray} {maxL : Nat} {ret : Option FieldType}
    (hM : vx_Met l y ws rm Pc Qc XC mc ms free) (hblind : FrameBlind Pc) (hrc : rm.cells = mc) (hrs : rm.slots = ms)
    (hframes : rm.frames + 1 ≤ R.frames) (hlocals : W9 + (maxL + 11) + rm.locals ≤ R.locals)
    (hws : ∀ w ∈ ws, ∀ a' U, s.WarmedH U.vm → w.before a' U = true) (hcode : Cond.code y bytes maxL ret ∈ ws) (hinit : ∀ a' U, s.WarmedH U.vm → (Cond.initialized y.cls).before a' U = true) :
    vx_Back l R p e below s sargs y len W9 (PreOf R mc ms Pc) (PostOf Qc mc ms free) (vx_Post XC mc ms free) := by
  intro m meth c A g ig mk a X hg hsize hdg hW hn hp
  have h1 : (headSpec ws rm).pre.before a A.U = true := atoms_intro fun w hw => hws w hw _ _ X.warmed
  have h2 : (Cond.code y bytes maxL ret).before a A.U = true := hws _ hcode _ _ X.warmed
  have h3 : (Cond.initialized y.cls).before a A.U = true := hinit _ _ X.warmed
  have h4 : A.cells + (headSpec ws rm).room.cells ≤ R.cells := by rw [show (headSpec ws rm).room.cells = mc from hrc]; exact hp.1
  have h5 : A.slots + (headSpec ws rm).room.slots ≤ R.slots := by rw [show (headSpec ws rm).room.slots = ms from hrs]; exact hp.2.1
  have hPc : Pc a (A.U.calling g mk a) := hblind _ _ _ _ hp.2.2
  obtain ⟨U, Ls, c0, s0⟩ := A
  dsimp only [Pt.U, Pt.locs, Pt.cells, Pt.slots] at h1 h2 h3 h4 h5 X hn hPc ⊢
  obtain ⟨methY, cY, hmY, hcY, -, hlY, -, -, -, -⟩ := Cond.code_spec hn h2
  obtain ⟨kY, hkY, -⟩ := className_of_methodNamed hn
  have hinitY : kY.init = .initialized := Cond.initialized_spec (findClass_of_methodNamed hn) hkY h3
  have h : At U g.method c below := by rw [hg]; exact X.here
  have hlocals9 : W9 + (maxL + 11) + (headSpec ws rm).room.locals ≤ R.locals := hlocals
  have happ : (headSpec ws rm).appliesLoose y e.platform (U.calling g mk a) = true :=
    Spec.appliesLoose_calling (g := g) h hdg hn hkY hinitY
      (X.room_calling (g := g) (R' := (headSpec ws rm).room) hsize hmY hcY hframes (by rw [hlY]; omega) h4 h5) h1
  obtain ⟨mid, hmid⟩ := h.above
  have hfr : (U.setTop g).frames = (.java g :: mid) ++ below := by rw [State.frames_setTop' g h.top, hmid]; rfl
  obtain ⟨o, s₂, hsteps, -, hend, hq⟩ := Steps.callFree hM p X.admits X.cas X.clock (acts := []) hfr happ hPc trivial
  have hq' : vx_Q Qc XC mc ms free a (U.calling g mk a) o s₂ := hq
  rw [State.frames_setTop' g h.top] at hend
  obtain ⟨g₀, hg0⟩ := Option.isSome_iff_exists.mp h.top
  obtain ⟨r, hr⟩ := State.topJava?_eq_some.mp hg0
  have hr' : (({ U with heap := s₂.heap, slotsUsed := s₂.slotsUsed } : State).setVm s₂.vm).frames = .java g₀ :: r := hr
  rcases hq' with ⟨hqc, L, hfe, hL⟩ | ⟨q, rfl, E, ce, L, hx, hce, hcv, hcl, hW₂, hsm, hL⟩
  · obtain ⟨⟨v, rfl⟩, hW₂, e2, q2, q3, q4, q5, q6⟩ := id hfe
    have e3 : s₂ = ({ (U.calling g mk a).setFrames s₂.frames with heap := s₂.heap, slotsUsed := s₂.slotsUsed } : State).setVm s₂.vm := by
      have : s₂ = ({ s₂ with vm := (U.calling g mk a).vm } : State).setVm s₂.vm := rfl
      rw [e2] at this
      exact this
    obtain ⟨c₂, i₂, len₂, hc₂, hd₂, hf₂⟩ := hend
    have hW' : U.WarmedH s₂.vm := hW₂
    have hcc : c₂ = c := by
      have h1 : s₂.code? g.method = U.code? g.method := by
        rw [State.code?_eq, State.code?_eq, hW'.alike.method?]
      exact Option.some.inj (hc₂.symm.trans (h1.trans h.code))
    subst hcc
    have hlen : len₂ = len := by rw [hdg] at hd₂; cases hd₂; rfl
    subst hlen
    have hs₂ : s₂ = (({ U with heap := s₂.heap, slotsUsed := s₂.slotsUsed } : State).setVm s₂.vm).setTop { g with pc := g.pc + len₂, stack := v.toList ++ g.stack } := by
      refine e3.trans ?_
      rw [hf₂, State.calling_eq h.top, State.setFrames_setFrames, State.setTop_of_frames _ hr', hr]
      rfl
    have hsame : U.sameButNew ({ U with heap := s₂.heap, slotsUsed := s₂.slotsUsed } : State) L mc ms := by
      refine ⟨?_, q2, q3, q4, q5, q6⟩
      obtain ⟨t, ht, -⟩ := State.frames_cons hr
      show ({ U with heap := s₂.heap, slotsUsed := s₂.slotsUsed } : State) = { U.setFrames U.frames with heap := s₂.heap, slotsUsed := s₂.slotsUsed }
      rw [State.setFrames_self ht]
    subst hg
    refine Or.inl ⟨v, ⟨(({ U with heap := s₂.heap, slotsUsed := s₂.slotsUsed } : State).setVm s₂.vm), Ls ++ L, c0 + mc, s0 + ms⟩,
      ⟨X.admits, X.cas, X.clock, X.frames, X.room, X.hears, X.method, X.code, (X.here.setHeapUsed s₂.heap s₂.slotsUsed).setVm hW'.alike, X.tail, State.WarmedH.trans X.warmed hW', X.limits, X.bytes, X.same.trans (hsame.setVm s.vm)⟩,
      ⟨g, mk, s₂, L, rfl, rfl, hqc, rfl, hL, rfl, rfl⟩, ?_⟩
    show Steps p.tables e below _ ((({ U with heap := s₂.heap, slotsUsed := s₂.slotsUsed } : State).setVm s₂.vm).setTop { g with pc := g.pc + len₂, stack := v.toList ++ g.stack })
    rw [← hs₂]
    exact hsteps
  · obtain ⟨e2, q2, q3, q4, q5, q6⟩ := id hsm
    have e3 : s₂ = ({ (U.calling g mk a).setFrames s₂.frames with heap := s₂.heap, slotsUsed := s₂.slotsUsed } : State).setVm s₂.vm := by
      have : s₂ = ({ s₂ with vm := (U.calling g mk a).vm } : State).setVm s₂.vm := rfl
      rw [e2] at this
      exact this
    have hf₂ : s₂.frames = .throwing q :: .java g :: U.frames.tail := hend
    have hW' : U.WarmedH s₂.vm := hW₂
    have hs₂ : s₂ = ((({ U with heap := s₂.heap, slotsUsed := s₂.slotsUsed } : State).setVm s₂.vm).setTop g).pushFrame (.throwing q) := by
      refine e3.trans ?_
      rw [hf₂, State.calling_eq h.top, State.setFrames_setFrames, State.pushFrame, State.frames_setTop _ hr', State.setTop_of_frames _ hr', State.setFrames_setFrames, hr]
      rfl
    have hsame : U.sameButNew ({ U with heap := s₂.heap, slotsUsed := s₂.slotsUsed } : State) L mc ms := by
      refine ⟨?_, q2, q3, q4, q5, q6⟩
      obtain ⟨t, ht, -⟩ := State.frames_cons hr
      show ({ U with heap := s₂.heap, slotsUsed := s₂.slotsUsed } : State) = { U.setFrames U.frames with heap := s₂.heap, slotsUsed := s₂.slotsUsed }
      rw [State.setFrames_self ht]
    subst hg
    refine Or.inr ⟨q, ⟨(({ U with heap := s₂.heap, slotsUsed := s₂.slotsUsed } : State).setVm s₂.vm), Ls ++ L, c0 + mc, s0 + ms⟩,
      ⟨X.admits, X.cas, X.clock, X.frames, X.room, X.hears, X.method, X.code, (X.here.setHeapUsed s₂.heap s₂.slotsUsed).setVm hW'.alike, X.tail, State.WarmedH.trans X.warmed hW', X.limits, X.bytes, X.same.trans (hsame.setVm s.vm)⟩,
      ⟨g, mk, s₂, L, E, ce, rfl, rfl, hx, hce, hcv, hcl, rfl, hL, rfl, rfl⟩, ?_⟩
    show Steps p.tables e below _ (((({ U with heap := s₂.heap, slotsUsed := s₂.slotsUsed } : State).setVm s₂.vm).setTop g).pushFrame (.throwing q))
    rw [← hs₂]
    exact hsteps
end Payer
section Calls
variable {p : Program} {l : Launch} {e : Env} {R : Room} {s : State} {m : MethodId} {args : Array Value} {below : List Frame} {meth : Method} {c : Code} {T : State} {locs : List Loc} {cells slots : Nat}
theorem vx_callV (X : Stand p l e R s m args below meth c T locs cells slots) (hexec : p.tables.exec = Jvm.exec) {own C : String} {index : Nat} {y : MethodName} {bytes : ByteArray} {maxL : Nat} {ret : Option FieldType}
    (hown : s.vm.findClass own = some m.cls) (hlink : (Cond.methodLink own index y).before args s = true) (hinst : (Cond.instanceMethod y).before args s = true) (hsel : (Cond.selects C y y).before args s = true)
    (hcode : (Cond.code y bytes maxL ret).before args s = true) (hy : y.cls ≠ "java/lang/invoke/MethodHandle" ∧ y.cls ≠ "java/lang/invoke/VarHandle")
    {W9 : Nat} {Pre : Pt → Array Value → Prop} {Post : Pt → Array Value → Option Value → Pt → Prop} {PostX : Pt → Array Value → Addr → Pt → Prop} (hK : vx_Back l R p e below s args y 3 W9 Pre Post PostX)
    {b : Addr} {cellB : Cell} (hcell : T.heap[b]? = some cellB) (hobj : cellB.vm.isStatics = false) (hcls : s.vm.findClass C = some cellB.cls)
    {g : JFrame} (hg : g.method = m) (hsize : g.locals.size = c.maxLocals) {argsL rest : List Value} (hlen : ∀ sig, parseMethodDescriptor y.desc = some sig → argsL.length = sig.parameters.length)
    (hstack : g.stack = argsL.reverse ++ .ref b :: rest) (hW : 2 * g.monitorRoom + (rest.map fun v => v.category).sum ≤ W9) (hdg : decode c.code g.pc = .ok (.invokevirtual index, 3))
    (hpre : ∀ vm₁, s.WarmedH vm₁ → Pre ⟨T.setVm vm₁, locs, cells, slots⟩ (Value.ref b :: argsL).toArray) :
    (∃ (v : Option Value) (vm₁ : Vm) (B : Pt), s.WarmedH vm₁ ∧ Stand p l e R s m args below meth c B.U B.locs B.cells B.slots ∧ Post ⟨T.setVm vm₁, locs, cells, slots⟩ (Value.ref b :: argsL).toArray v B ∧
      ∀ target, Steps p.tables e below (B.U.setTop { g with pc := g.pc + 3, stack := v.toList ++ rest }) target → Steps p.tables e below (T.setTop g) target) ∨
    (∃ (q : Addr) (vm₁ : Vm) (B : Pt), s.WarmedH vm₁ ∧ Stand p l e R s m args below meth c B.U B.locs B.cells B.slots ∧ PostX ⟨T.setVm vm₁, locs, cells, slots⟩ (Value.ref b :: argsL).toArray q B ∧
      Steps p.tables e below (T.setTop g) ((B.U.setTop { g with stack := rest }).pushFrame (.throwing q))) := by
  obtain ⟨mk, methM, hnamed, hmethM, hstM, habM⟩ := Cond.instanceMethod_spec hinst
  obtain ⟨methM', cM, hmethM', -, -, -, -, -, -, hsigM⟩ := Cond.code_spec hnamed hcode
  cases hmethM.symm.trans hmethM'
  obtain ⟨c2, r2, m2, q1, q2, q3, q4, kP, hkP, hkPi⟩ := Cond.selects_spec hsel
  cases hcls.symm.trans q1
  cases (State.methodFound?_of_named hnamed hy).symm.trans q2
  cases hnamed.symm.trans q3
  have hselP : selectMethod e.platform s.vm cellB.cls mk = .method mk := by rw [Launch.admits_selectMethod X.admits]; exact q4
  obtain ⟨vm₁, X₁, hstep₁⟩ := X.invokevirtual hexec hown hlink hnamed hmethM hstM hkP hkPi hy (a := b) (cell := cellB) hcell
    (fun z h => by rw [h] at hobj; cases hobj) hselP hmethM habM hkP hkPi (g := g) hg (argsL := argsL) (rest := rest) (hlen _ hsigM) hstack hdg
  rcases hK m meth c ⟨T.setVm vm₁, locs, cells, slots⟩ { g with stack := rest } (.invokevirtual index) mk (Value.ref b :: argsL).toArray X₁ hg hsize hdg hW (X₁.named hnamed) (hpre vm₁ X₁.warmed) with ⟨v, B, X', hpost, hsteps⟩ | ⟨q, B, X', hpost, hsteps⟩
  · exact Or.inl ⟨v, vm₁, B, X₁.warmed, X', hpost, fun target h => hstep₁ _ fun acts => by rw [doInvoke_state]; exact hsteps.trans h⟩
  · exact Or.inr ⟨q, vm₁, B, X₁.warmed, X', hpost, hstep₁ _ fun acts => by rw [doInvoke_state]; exact hsteps⟩
theorem vx_callS (X : Stand p l e R s m args below meth c T locs cells slots) (hexec : p.tables.exec = Jvm.exec) {own : String} {index : Nat} {y : MethodName} {bytes : ByteArray} {maxL : Nat} {ret : Option FieldType}
    (hown : s.vm.findClass own = some m.cls) (hlink : (Cond.methodLink own index y).before args s = true) (hstat : (Cond.static y).before args s = true) (hinit : (Cond.initialized y.cls).before args s = true)
    (hcode : (Cond.code y bytes maxL ret).before args s = true) (hy : y.cls ≠ "java/lang/invoke/MethodHandle" ∧ y.cls ≠ "java/lang/invoke/VarHandle")
    {W9 : Nat} {Pre : Pt → Array Value → Prop} {Post : Pt → Array Value → Option Value → Pt → Prop} {PostX : Pt → Array Value → Addr → Pt → Prop} (hK : vx_Back l R p e below s args y 3 W9 Pre Post PostX)
    {g : JFrame} (hg : g.method = m) (hsize : g.locals.size = c.maxLocals) {argsL rest : List Value} (hlen : ∀ sig, parseMethodDescriptor y.desc = some sig → argsL.length = sig.parameters.length)
    (hstack : g.stack = argsL.reverse ++ rest) (hW : 2 * g.monitorRoom + (rest.map fun v => v.category).sum ≤ W9) (hdg : decode c.code g.pc = .ok (.invokestatic index, 3))
    (hpre : ∀ vm₁, s.WarmedH vm₁ → Pre ⟨T.setVm vm₁, locs, cells, slots⟩ argsL.toArray) :
    (∃ (v : Option Value) (vm₁ : Vm) (B : Pt), s.WarmedH vm₁ ∧ Stand p l e R s m args below meth c B.U B.locs B.cells B.slots ∧ Post ⟨T.setVm vm₁, locs, cells, slots⟩ argsL.toArray v B ∧
      ∀ target, Steps p.tables e below (B.U.setTop { g with pc := g.pc + 3, stack := v.toList ++ rest }) target → Steps p.tables e below (T.setTop g) target) ∨
    (∃ (q : Addr) (vm₁ : Vm) (B : Pt), s.WarmedH vm₁ ∧ Stand p l e R s m args below meth c B.U B.locs B.cells B.slots ∧ PostX ⟨T.setVm vm₁, locs, cells, slots⟩ argsL.toArray q B ∧
      Steps p.tables e below (T.setTop g) ((B.U.setTop { g with stack := rest }).pushFrame (.throwing q))) := by
  obtain ⟨mk, hnamed⟩ := Cond.code_named hcode
  obtain ⟨methM, cM, hmethM, -, -, -, -, -, -, hsigM⟩ := Cond.code_spec hnamed hcode
  have hstatic : methM.isStatic = true := Cond.static_spec hnamed hmethM hstat
  obtain ⟨kP, hkP, -⟩ := className_of_methodNamed hnamed
  have hinitP : kP.init = .initialized := Cond.initialized_spec (findClass_of_methodNamed hnamed) hkP hinit
  obtain ⟨vm₁, X₁, hstep₁⟩ := X.invokestatic hexec hown hlink hnamed hmethM hstatic hkP hinitP hy (g := g) hg (argsL := argsL) (rest := rest) (hlen _ hsigM) hstack hdg
  rcases hK m meth c ⟨T.setVm vm₁, locs, cells, slots⟩ { g with stack := rest } (.invokestatic index) mk argsL.toArray X₁ hg hsize hdg hW (X₁.named hnamed) (hpre vm₁ X₁.warmed) with ⟨v, B, X', hpost, hsteps⟩ | ⟨q, B, X', hpost, hsteps⟩
  · exact Or.inl ⟨v, vm₁, B, X₁.warmed, X', hpost, fun target h => hstep₁ _ fun acts => by rw [doInvoke_state]; exact hsteps.trans h⟩
  · exact Or.inr ⟨q, vm₁, B, X₁.warmed, X', hpost, hstep₁ _ fun acts => by rw [doInvoke_state]; exact hsteps⟩
end Calls
theorem vx_cls {s : State} {T : State} {vm₁ : Vm} {E : String} {k : ClassId} (hW : s.WarmedH vm₁) (h : (T.setVm vm₁).vm.findClass E = some k) : s.vm.findClass E = some k := by
  have h1 : vm₁.findClass E = some k := h
  rw [hW.alike.findClass] at h1
  exact h1
/-- the method's frame g, with q thrown over it -/
def vx_W (p : Program) (l : Launch) (e : Env) (R : Room) (s : State) (m : MethodId) (args : Array Value) (below : List Frame) (meth : Method) (c : Code) (H : Heap) (locs : List Loc) (cells slots : Nat) (Q : State → Prop) (g : JFrame) (q : Addr) : Prop :=
  ∀ T : State, T.heap = H → Stand p l e R s m args below meth c T locs cells slots → ∃ t, Steps p.tables e below ((T.setTop g).pushFrame (.throwing q)) t ∧ Q t
def vx_Run (p : Program) (l : Launch) (e : Env) (R : Room) (s : State) (m : MethodId) (args : Array Value) (below : List Frame) (meth : Method) (c : Code) (H : Heap) (locs : List Loc) (cells slots mc ms : Nat) (g : JFrame) (rest : List Value) (Qa : State → Outcome → State → Prop) (XC : String → State → State → Prop) (free : Addr → Prop) : Prop :=
  ∀ T : State, T.heap = H → Stand p l e R s m args below meth c T locs cells slots →
    (∃ (v : Option Value) (st₀ t T' : State) (L : List Loc), st₀.heap = H ∧ Stand p l e R s m args below meth c T' (locs ++ L) (cells + mc) (slots + ms) ∧ (∀ q ∈ L, free q.base) ∧ T'.heap = t.heap ∧ T'.vm = t.vm ∧ Qa st₀ (.returned v) t ∧
      Goes p e below T g T' { g with pc := g.pc + 3, stack := v.toList ++ rest }) ∨
    (∃ (q : Addr) (st₀ t T' : State) (L : List Loc) (E : String) (ce : Cell), st₀.heap = H ∧ Stand p l e R s m args below meth c T' (locs ++ L) (cells + mc) (slots + ms) ∧ (∀ z ∈ L, free z.base) ∧ T'.heap = t.heap ∧ T'.vm = t.vm ∧ XC E st₀ t ∧ t.heap[q]? = some ce ∧ ce.vm = .none ∧ s.vm.findClass E = some ce.cls ∧
      Steps p.tables e below (T.setTop g) ((T'.setTop { g with stack := rest }).pushFrame (.throwing q)))
def vx_X {S : Type} (px : S → Prop) (B : String → S → State → Prop) (A : Nat → Prop) : String → State → State → Prop := fun E st t => ∃ u : S, px u ∧ B E u t ∧ va_F A st t
section Runs
variable {p : Program} {l : Launch} {e : Env} {R : Room} {s : State} {m : MethodId} {args : Array Value} {below : List Frame} {meth : Method} {c : Code} {H : Heap} {locs : List Loc} {cells slots : Nat}
variable {y : MethodName} {bytes cc : ByteArray} {maxL nL mc ms n index : Nat} {ret : Option FieldType} {ws : List Cond} {rm : Room} {Pc : Array Value → State → Prop} {Qc : Array Value → State → Outcome → State → Prop} {XC : String → State → State → Prop} {free : Addr → Prop} {Ts : List Cond} {own C : String} {b : Addr} {As rest : List Value} {g : JFrame}
theorem vx_callBack (cb : CallB R s args own index y bytes maxL ret ws rm mc ms n) (hM : vx_Met l y ws rm Pc Qc XC mc ms free) (hbl : FrameBlind Pc) : vx_Back l R p e below s args y 3 8 (PreOf R mc ms Pc) (PostOf Qc mc ms free) (vx_Post XC mc ms free) := by
  obtain ⟨hrc, hrs, hfr, hlo, hws, hcw, -, hini, -⟩ := cb
  exact vx_back (bytes := bytes) (maxL := maxL) (ret := ret) hM hbl hrc hrs hfr hlo hws hcw (fun a' U hW => word_at hW (Or.inl (by first | rfl | simp [Cond.onTables, Cond.keeps, Cond.steady])) hini)
theorem vx_runV (S : CallFix p m c cc nL s args Ts own) (hM : vx_Met l y ws rm Pc Qc XC mc ms free) (cw : CallW R s args own C index y bytes maxL ret ws rm mc ms n) (hp : PreV s H C b Pc As)
    (hg : g.method = m) (hn : As.length = n) (hsize : g.locals.size = nL) (hstack : g.stack = As.reverse ++ .ref b :: rest) (hW : 2 * g.monitorRoom + (rest.map fun v => v.category).sum ≤ 8) (hdg : decode cc g.pc = .ok (.invokevirtual index, 3)) (hf : cells + mc ≤ R.cells ∧ slots + ms ≤ R.slots) :
    vx_Run p l e R s m args below meth c H locs cells slots mc ms g rest (Qc (Value.ref b :: As).toArray) XC free := by
  have hK : vx_Back l R p e below s args y 3 8 (PreOf R mc ms Pc) (PostOf Qc mc ms free) (vx_Post XC mc ms free) := vx_callBack cw.1 hM hp.1
  obtain ⟨⟨-, -, -, -, -, -, hcode, -, hy, hlen, hl⟩, hin, hse⟩ := cw
  obtain ⟨hx, hb, hml, ho, -⟩ := S
  obtain ⟨-, ⟨cellB, hcB, hoB, hclB⟩, hPc⟩ := hp
  intro T hT X
  rcases vx_callV X hx (C := C) (bytes := bytes) (maxL := maxL) (ret := ret) ho hl hin hse hcode hy hK (by rw [hT]; exact hcB) hoB hclB hg (hsize.trans hml.symm) (argsL := As) (rest := rest) (fun sig h => hn.trans (hlen sig h)) hstack hW (by rw [hb]; exact hdg)
    (fun vm₁ hW₁ => ⟨hf.1, hf.2, hPc (T.setVm vm₁) hT hW₁⟩) with ⟨v, vm₁, ⟨U', l2, c2, s2⟩, hW₁, X', ⟨g', mk, t, L, e1, e2, hq, h1, hL, h2, h3⟩, st⟩ | ⟨q, vm₁, ⟨U', l2, c2, s2⟩, hW₁, X', ⟨g', mk, t, L, E, ce, e1, e2, hq, hce, hcv, hcl, h1, hL, h2, h3⟩, st⟩
  · dsimp only [Pt.U, Pt.locs, Pt.cells, Pt.slots] at X' e1 e2 h1 h2 h3 st
    subst h1; subst h2; subst h3
    exact Or.inl ⟨v, (T.setVm vm₁).calling g' mk (Value.ref b :: As).toArray, t, U', L, hT, X', hL, e1, e2, hq, st⟩
  · dsimp only [Pt.U, Pt.locs, Pt.cells, Pt.slots] at X' e1 e2 h1 h2 h3 st hcl
    subst h1; subst h2; subst h3
    exact Or.inr ⟨q, (T.setVm vm₁).calling g' mk (Value.ref b :: As).toArray, t, U', L, E, ce, hT, X', hL, e1, e2, hq, hce, hcv, vx_cls hW₁ hcl, st⟩
theorem vx_runS (S : CallFix p m c cc nL s args Ts own) (hM : vx_Met l y ws rm Pc Qc XC mc ms free) (cw : CallB R s args own index y bytes maxL ret ws rm mc ms n ∧ (Cond.static y).before args s = true) (hp : PreS s H Pc As)
    (hg : g.method = m) (hn : As.length = n) (hsize : g.locals.size = nL) (hstack : g.stack = As.reverse ++ rest) (hW : 2 * g.monitorRoom + (rest.map fun v => v.category).sum ≤ 8) (hdg : decode cc g.pc = .ok (.invokestatic index, 3)) (hf : cells + mc ≤ R.cells ∧ slots + ms ≤ R.slots) :
    vx_Run p l e R s m args below meth c H locs cells slots mc ms g rest (Qc As.toArray) XC free := by
  have hK : vx_Back l R p e below s args y 3 8 (PreOf R mc ms Pc) (PostOf Qc mc ms free) (vx_Post XC mc ms free) := vx_callBack cw.1 hM hp.1
  obtain ⟨⟨-, -, -, -, -, -, hcode, hini, hy, hlen, hl⟩, hstt⟩ := cw
  obtain ⟨hx, hb, hml, ho, -⟩ := S
  intro T hT X
  rcases vx_callS X hx (bytes := bytes) (maxL := maxL) (ret := ret) ho hl hstt hini hcode hy hK hg (hsize.trans hml.symm) (argsL := As) (rest := rest) (fun sig h => hn.trans (hlen sig h)) hstack hW (by rw [hb]; exact hdg)
    (fun vm₁ hW₁ => ⟨hf.1, hf.2, hp.2 (T.setVm vm₁) hT hW₁⟩) with ⟨v, vm₁, ⟨U', l2, c2, s2⟩, hW₁, X', ⟨g', mk, t, L, e1, e2, hq, h1, hL, h2, h3⟩, st⟩ | ⟨q, vm₁, ⟨U', l2, c2, s2⟩, hW₁, X', ⟨g', mk, t, L, E, ce, e1, e2, hq, hce, hcv, hcl, h1, hL, h2, h3⟩, st⟩
  · dsimp only [Pt.U, Pt.locs, Pt.cells, Pt.slots] at X' e1 e2 h1 h2 h3 st
    subst h1; subst h2; subst h3
    exact Or.inl ⟨v, (T.setVm vm₁).calling g' mk As.toArray, t, U', L, hT, X', hL, e1, e2, hq, st⟩
  · dsimp only [Pt.U, Pt.locs, Pt.cells, Pt.slots] at X' e1 e2 h1 h2 h3 st hcl
    subst h1; subst h2; subst h3
    exact Or.inr ⟨q, (T.setVm vm₁).calling g' mk As.toArray, t, U', L, E, ce, hT, X', hL, e1, e2, hq, hce, hcv, vx_cls hW₁ hcl, st⟩
end Runs
section Rows
variable {p : Program} {l : Launch} {e : Env} {R : Room} {s : State} {m : MethodId} {args : Array Value} {below : List Frame} {meth : Method} {c : Code} {H : Heap} {locs : List Loc} {cells slots : Nat} {Q : State → Prop}
variable {mc ms : Nat} {free : Addr → Prop} {A0 A1 : Nat → Prop} {H0 : Heap} {a : Array Value} {pc : Nat} {ls : Array Slot} {st0 rest : List Value}
theorem vx_keep {st₀ t T' : State} {L : List Loc} (h0 : st₀.heap = H) (e1 : T'.heap = t.heap) (hS : va_S A0 H0 H locs) (hA : ∀ q, q < H.size → A1 q → A0 q) (hf : ∀ q, free q → A0 q) (hL : ∀ q ∈ L, free q.base) (hF : va_F A1 st₀ t) :
    H.size ≤ T'.heap.size ∧ (∀ q : Nat, q < H.size → ¬ A1 q → T'.heap[q]? = H[q]?) ∧ va_S A0 H0 T'.heap (locs ++ L) := by
  obtain ⟨hz, hk⟩ := hF
  rw [h0] at hz hk
  exact ⟨by rw [e1]; exact hz, fun q h1 h2 => by rw [e1]; exact hk q h1 h2,
    ⟨Nat.le_trans hS.1 (by rw [e1]; exact hz), fun q h1 h2 => by rw [e1, hk q (Nat.lt_of_lt_of_le h1 hS.1) (fun z => h2 (hA q (Nat.lt_of_lt_of_le h1 hS.1) z))]; exact hS.2.1 q h1 h2, fun q hq => by
      rcases List.mem_append.mp hq with h | h
      · exact hS.2.2 q h
      · exact hf _ (hL q h)⟩⟩
theorem vx_calli {S SX : Type} {post : Int32 → S → Prop} {px : SX → Prop} {B : S → State → Prop} {BX : String → SX → State → Prop} {AX : Nat → Prop} (hr : vx_Run p l e R s m args below meth c H locs cells slots mc ms (F0 m pc ls st0) rest (va_Qi post B A1 a) (vx_X px BX AX) free) (hS : va_S A0 H0 H locs) (hA : ∀ q, q < H.size → A1 q → A0 q) (hf : ∀ q, free q → A0 q) (hAX : ∀ q, q < H.size → AX q → A0 q)
    (kx : ∀ (E : String) (ce : Cell) (q9 : Addr) (u : SX) (t : State) (H1 : Heap) (locs1 : List Loc), t.heap = H1 → s.vm.Alike t.vm → px u → BX E u t → H.size ≤ H1.size → (∀ q : Nat, q < H.size → ¬ AX q → H1[q]? = H[q]?) → va_S A0 H0 H1 locs1 → H1[q9]? = some ce → ce.vm = .none → s.vm.findClass E = some ce.cls → vx_W p l e R s m args below meth c H1 locs1 (cells + mc) (slots + ms) Q (F0 m pc ls rest) q9)
    (kk : ∀ (r : Int32) (u : S) (t : State) (H1 : Heap) (locs1 : List Loc), t.heap = H1 → s.vm.Alike t.vm → post r u → B u t → H.size ≤ H1.size → (∀ q : Nat, q < H.size → ¬ A1 q → H1[q]? = H[q]?) → va_S A0 H0 H1 locs1 → W p l e R s m args below meth c H1 locs1 (cells + mc) (slots + ms) Q (F0 m (pc + 3) ls (.int r :: rest))) : W p l e R s m args below meth c H locs cells slots Q (F0 m pc ls st0) := by
  intro T hT X
  rcases hr T hT X with ⟨v, st₀, t, T', L, h0, X', hL, e1, e2, ⟨⟨r, u, hv, hp, hb⟩, hF⟩, st⟩ | ⟨q, st₀, t, T', L, E, ce, h0, X', hL, e1, e2, ⟨u, hp, hb, hF⟩, hce, hcv, hcl, st⟩
  · cases hv
    obtain ⟨k1, k2, k3⟩ := vx_keep h0 e1 hS hA hf hL hF
    obtain ⟨t2, a1, b1⟩ := kk r u t T'.heap (locs ++ L) e1.symm (by rw [← e2]; exact X'.warmed.alike) hp hb k1 k2 k3 T' rfl X'
    exact ⟨t2, st t2 a1, b1⟩
  · obtain ⟨k1, k2, k3⟩ := vx_keep h0 e1 hS hAX hf hL hF
    obtain ⟨t2, a1, b1⟩ := kx E ce q u t T'.heap (locs ++ L) e1.symm (by rw [← e2]; exact X'.warmed.alike) hp hb k1 k2 k3 (by rw [e1]; exact hce) hcv hcl T' rfl X'
    exact ⟨t2, st.trans a1, b1⟩
theorem vx_calll {S SX : Type} {post : Int64 → S → Prop} {px : SX → Prop} {B : S → State → Prop} {BX : String → SX → State → Prop} {AX : Nat → Prop} (hr : vx_Run p l e R s m args below meth c H locs cells slots mc ms (F0 m pc ls st0) rest (va_Ql post B A1 a) (vx_X px BX AX) free) (hS : va_S A0 H0 H locs) (hA : ∀ q, q < H.size → A1 q → A0 q) (hf : ∀ q, free q → A0 q) (hAX : ∀ q, q < H.size → AX q → A0 q)
    (kx : ∀ (E : String) (ce : Cell) (q9 : Addr) (u : SX) (t : State) (H1 : Heap) (locs1 : List Loc), t.heap = H1 → s.vm.Alike t.vm → px u → BX E u t → H.size ≤ H1.size → (∀ q : Nat, q < H.size → ¬ AX q → H1[q]? = H[q]?) → va_S A0 H0 H1 locs1 → H1[q9]? = some ce → ce.vm = .none → s.vm.findClass E = some ce.cls → vx_W p l e R s m args below meth c H1 locs1 (cells + mc) (slots + ms) Q (F0 m pc ls rest) q9)
    (kk : ∀ (r : Int64) (u : S) (t : State) (H1 : Heap) (locs1 : List Loc), t.heap = H1 → s.vm.Alike t.vm → post r u → B u t → H.size ≤ H1.size → (∀ q : Nat, q < H.size → ¬ A1 q → H1[q]? = H[q]?) → va_S A0 H0 H1 locs1 → W p l e R s m args below meth c H1 locs1 (cells + mc) (slots + ms) Q (F0 m (pc + 3) ls (.long r :: rest))) : W p l e R s m args below meth c H locs cells slots Q (F0 m pc ls st0) := by
  intro T hT X
  rcases hr T hT X with ⟨v, st₀, t, T', L, h0, X', hL, e1, e2, ⟨⟨r, u, hv, hp, hb⟩, hF⟩, st⟩ | ⟨q, st₀, t, T', L, E, ce, h0, X', hL, e1, e2, ⟨u, hp, hb, hF⟩, hce, hcv, hcl, st⟩
  · cases hv
    obtain ⟨k1, k2, k3⟩ := vx_keep h0 e1 hS hA hf hL hF
    obtain ⟨t2, a1, b1⟩ := kk r u t T'.heap (locs ++ L) e1.symm (by rw [← e2]; exact X'.warmed.alike) hp hb k1 k2 k3 T' rfl X'
    exact ⟨t2, st t2 a1, b1⟩
  · obtain ⟨k1, k2, k3⟩ := vx_keep h0 e1 hS hAX hf hL hF
    obtain ⟨t2, a1, b1⟩ := kx E ce q u t T'.heap (locs ++ L) e1.symm (by rw [← e2]; exact X'.warmed.alike) hp hb k1 k2 k3 (by rw [e1]; exact hce) hcv hcl T' rfl X'
    exact ⟨t2, st.trans a1, b1⟩
theorem vx_callf {S SX : Type} {post : UInt32 → S → Prop} {px : SX → Prop} {B : S → State → Prop} {BX : String → SX → State → Prop} {AX : Nat → Prop} (hr : vx_Run p l e R s m args below meth c H locs cells slots mc ms (F0 m pc ls st0) rest (va_Qf post B A1 a) (vx_X px BX AX) free) (hS : va_S A0 H0 H locs) (hA : ∀ q, q < H.size → A1 q → A0 q) (hf : ∀ q, free q → A0 q) (hAX : ∀ q, q < H.size → AX q → A0 q)
    (kx : ∀ (E : String) (ce : Cell) (q9 : Addr) (u : SX) (t : State) (H1 : Heap) (locs1 : List Loc), t.heap = H1 → s.vm.Alike t.vm → px u → BX E u t → H.size ≤ H1.size → (∀ q : Nat, q < H.size → ¬ AX q → H1[q]? = H[q]?) → va_S A0 H0 H1 locs1 → H1[q9]? = some ce → ce.vm = .none → s.vm.findClass E = some ce.cls → vx_W p l e R s m args below meth c H1 locs1 (cells + mc) (slots + ms) Q (F0 m pc ls rest) q9)
    (kk : ∀ (r : UInt32) (u : S) (t : State) (H1 : Heap) (locs1 : List Loc), t.heap = H1 → s.vm.Alike t.vm → post r u → B u t → H.size ≤ H1.size → (∀ q : Nat, q < H.size → ¬ A1 q → H1[q]? = H[q]?) → va_S A0 H0 H1 locs1 → W p l e R s m args below meth c H1 locs1 (cells + mc) (slots + ms) Q (F0 m (pc + 3) ls (.float r :: rest))) : W p l e R s m args below meth c H locs cells slots Q (F0 m pc ls st0) := by
  intro T hT X
  rcases hr T hT X with ⟨v, st₀, t, T', L, h0, X', hL, e1, e2, ⟨⟨r, u, hv, hp, hb⟩, hF⟩, st⟩ | ⟨q, st₀, t, T', L, E, ce, h0, X', hL, e1, e2, ⟨u, hp, hb, hF⟩, hce, hcv, hcl, st⟩
  · cases hv
    obtain ⟨k1, k2, k3⟩ := vx_keep h0 e1 hS hA hf hL hF
    obtain ⟨t2, a1, b1⟩ := kk r u t T'.heap (locs ++ L) e1.symm (by rw [← e2]; exact X'.warmed.alike) hp hb k1 k2 k3 T' rfl X'
    exact ⟨t2, st t2 a1, b1⟩
  · obtain ⟨k1, k2, k3⟩ := vx_keep h0 e1 hS hAX hf hL hF
    obtain ⟨t2, a1, b1⟩ := kx E ce q u t T'.heap (locs ++ L) e1.symm (by rw [← e2]; exact X'.warmed.alike) hp hb k1 k2 k3 (by rw [e1]; exact hce) hcv hcl T' rfl X'
    exact ⟨t2, st.trans a1, b1⟩
theorem vx_calld {S SX : Type} {post : UInt64 → S → Prop} {px : SX → Prop} {B : S → State → Prop} {BX : String → SX → State → Prop} {AX : Nat → Prop} (hr : vx_Run p l e R s m args below meth c H locs cells slots mc ms (F0 m pc ls st0) rest (va_Qd post B A1 a) (vx_X px BX AX) free) (hS : va_S A0 H0 H locs) (hA : ∀ q, q < H.size → A1 q → A0 q) (hf : ∀ q, free q → A0 q) (hAX : ∀ q, q < H.size → AX q → A0 q)
    (kx : ∀ (E : String) (ce : Cell) (q9 : Addr) (u : SX) (t : State) (H1 : Heap) (locs1 : List Loc), t.heap = H1 → s.vm.Alike t.vm → px u → BX E u t → H.size ≤ H1.size → (∀ q : Nat, q < H.size → ¬ AX q → H1[q]? = H[q]?) → va_S A0 H0 H1 locs1 → H1[q9]? = some ce → ce.vm = .none → s.vm.findClass E = some ce.cls → vx_W p l e R s m args below meth c H1 locs1 (cells + mc) (slots + ms) Q (F0 m pc ls rest) q9)
    (kk : ∀ (r : UInt64) (u : S) (t : State) (H1 : Heap) (locs1 : List Loc), t.heap = H1 → s.vm.Alike t.vm → post r u → B u t → H.size ≤ H1.size → (∀ q : Nat, q < H.size → ¬ A1 q → H1[q]? = H[q]?) → va_S A0 H0 H1 locs1 → W p l e R s m args below meth c H1 locs1 (cells + mc) (slots + ms) Q (F0 m (pc + 3) ls (.double r :: rest))) : W p l e R s m args below meth c H locs cells slots Q (F0 m pc ls st0) := by
  intro T hT X
  rcases hr T hT X with ⟨v, st₀, t, T', L, h0, X', hL, e1, e2, ⟨⟨r, u, hv, hp, hb⟩, hF⟩, st⟩ | ⟨q, st₀, t, T', L, E, ce, h0, X', hL, e1, e2, ⟨u, hp, hb, hF⟩, hce, hcv, hcl, st⟩
  · cases hv
    obtain ⟨k1, k2, k3⟩ := vx_keep h0 e1 hS hA hf hL hF
    obtain ⟨t2, a1, b1⟩ := kk r u t T'.heap (locs ++ L) e1.symm (by rw [← e2]; exact X'.warmed.alike) hp hb k1 k2 k3 T' rfl X'
    exact ⟨t2, st t2 a1, b1⟩
  · obtain ⟨k1, k2, k3⟩ := vx_keep h0 e1 hS hAX hf hL hF
    obtain ⟨t2, a1, b1⟩ := kx E ce q u t T'.heap (locs ++ L) e1.symm (by rw [← e2]; exact X'.warmed.alike) hp hb k1 k2 k3 (by rw [e1]; exact hce) hcv hcl T' rfl X'
    exact ⟨t2, st.trans a1, b1⟩
theorem vx_callv {S SX : Type} {post : S → Prop} {px : SX → Prop} {B : S → State → Prop} {BX : String → SX → State → Prop} {AX : Nat → Prop} (hr : vx_Run p l e R s m args below meth c H locs cells slots mc ms (F0 m pc ls st0) rest (va_Qv post B A1 a) (vx_X px BX AX) free) (hS : va_S A0 H0 H locs) (hA : ∀ q, q < H.size → A1 q → A0 q) (hf : ∀ q, free q → A0 q) (hAX : ∀ q, q < H.size → AX q → A0 q)
    (kx : ∀ (E : String) (ce : Cell) (q9 : Addr) (u : SX) (t : State) (H1 : Heap) (locs1 : List Loc), t.heap = H1 → s.vm.Alike t.vm → px u → BX E u t → H.size ≤ H1.size → (∀ q : Nat, q < H.size → ¬ AX q → H1[q]? = H[q]?) → va_S A0 H0 H1 locs1 → H1[q9]? = some ce → ce.vm = .none → s.vm.findClass E = some ce.cls → vx_W p l e R s m args below meth c H1 locs1 (cells + mc) (slots + ms) Q (F0 m pc ls rest) q9)
    (kk : ∀ (u : S) (t : State) (H1 : Heap) (locs1 : List Loc), t.heap = H1 → s.vm.Alike t.vm → post u → B u t → H.size ≤ H1.size → (∀ q : Nat, q < H.size → ¬ A1 q → H1[q]? = H[q]?) → va_S A0 H0 H1 locs1 → W p l e R s m args below meth c H1 locs1 (cells + mc) (slots + ms) Q (F0 m (pc + 3) ls (rest))) : W p l e R s m args below meth c H locs cells slots Q (F0 m pc ls st0) := by
  intro T hT X
  rcases hr T hT X with ⟨v, st₀, t, T', L, h0, X', hL, e1, e2, ⟨⟨u, hv, hp, hb⟩, hF⟩, st⟩ | ⟨q, st₀, t, T', L, E, ce, h0, X', hL, e1, e2, ⟨u, hp, hb, hF⟩, hce, hcv, hcl, st⟩
  · cases hv
    obtain ⟨k1, k2, k3⟩ := vx_keep h0 e1 hS hA hf hL hF
    obtain ⟨t2, a1, b1⟩ := kk u t T'.heap (locs ++ L) e1.symm (by rw [← e2]; exact X'.warmed.alike) hp hb k1 k2 k3 T' rfl X'
    exact ⟨t2, st t2 a1, b1⟩
  · obtain ⟨k1, k2, k3⟩ := vx_keep h0 e1 hS hAX hf hL hF
    obtain ⟨t2, a1, b1⟩ := kx E ce q u t T'.heap (locs ++ L) e1.symm (by rw [← e2]; exact X'.warmed.alike) hp hb k1 k2 k3 (by rw [e1]; exact hce) hcv hcl T' rfl X'
    exact ⟨t2, st.trans a1, b1⟩
/-- caught by the row x of this method's table; the rows ahead don't take it -/
theorem vx_catch {own name : String} {E : String} {ce : Cell} {q : Addr} (hown : s.vm.findClass own = some m.cls) (pre : List ExceptionTableEntry) (x : ExceptionTableEntry) (suf : List ExceptionTableEntry) (hsplit : c.exceptionTable.toList = pre ++ x :: suf)
    (hpass : ∀ z ∈ pre, covers z pc = false ∨ (z.catchType ≠ 0 ∧ ∃ nm : String, (Cond.classLink own z.catchType nm).before args s = true ∧ va_Nc E nm s)) (hx : covers x pc = true) (h0 : x.catchType ≠ 0)
    (hlink : (Cond.classLink own x.catchType name).before args s = true) (hcast : (Cond.castable E name).before args s = true) (hcell : H[q]? = some ce) (hv : ce.vm = .none) (hcl : s.vm.findClass E = some ce.cls)
    (kk : W p l e R s m args below meth c H locs cells slots Q (F0 m x.handlerPc ls [.ref q])) : vx_W p l e R s m args below meth c H locs cells slots Q (F0 m pc ls rest) q := by
  intro T hT X
  have hpl : e.platform.magicAccessors = ({} : Platform).magicAccessors := by rw [X.admits.platform]
  obtain ⟨c3, c4, hc3, hc4, hasg⟩ := Cond.castable_spec hcast
  cases Option.some.inj (hc3.symm.trans hcl)
  obtain ⟨c5, hc5, hcl5⟩ := Cond.classLink_spec hown hlink e.platform hpl
  cases Option.some.inj (hc4.symm.trans hc5)
  obtain ⟨vm', X', st⟩ := X.thenCaughtThrough q (g := F0 m pc ls rest) rfl (Steps.refl _) (by rw [hT]; exact hcell) (by rw [hv]; rfl) (by obtain ⟨k9, h9, -⟩ := Vm.findClass_spec hcl; exact ⟨k9, h9⟩) pre x suf hsplit
    (fun z hz => by
      rcases hpass z hz with h | ⟨hz0, nm, hl1, hn1⟩
      · exact Or.inl h
      · obtain ⟨c6, hc6, hcl6⟩ := Cond.classLink_spec hown hl1 e.platform hpl
        obtain ⟨a8, b8, h1, h2, h3⟩ := hn1
        cases Option.some.inj (h1.symm.trans hcl)
        cases Option.some.inj (h2.symm.trans hc6)
        exact Or.inr ⟨hz0, _, hcl6, h3⟩) hx (Or.inr ⟨h0, c4, hcl5, hasg⟩)
  obtain ⟨t, a1, b1⟩ := kk (T.setVm vm') hT X'
  exact ⟨t, st.trans a1, b1⟩
end Rows
section Ends
variable {p : Program} {l : Launch} {e : Env} {R : Room} {s : State} {m : MethodId} {args : Array Value} {below : List Frame} {meth : Method} {c : Code} {H : Heap} {locs : List Loc} {cells slots : Nat} {Q : State → Prop}
variable {mc ms : Nat} {free : Addr → Prop} {A0 A1 : Nat → Prop} {H0 : Heap} {a : Array Value} {ls : Array Slot} {st0 rest : List Value}
variable {Qc : Array Value → State → Outcome → State → Prop} {XC : String → State → State → Prop}
/-- what a body that may throw owes at its end -/
def vx_MQ (below : List Frame) (Qc : Array Value → State → Outcome → State → Prop) (XC : String → State → State → Prop) (a : Array Value) (s : State) (mc ms : Nat) (free : Addr → Prop) : State → Prop := fun t =>
  ∃ o, t.status = .running ∧ Ended t below o ∧ vx_Q Qc XC mc ms free a s o t
theorem vx_ret {g : JFrame} {mc ms : Nat} (k : W p l e R s m args below meth c H locs cells slots (MQ below Qc args s mc ms free) g) : W p l e R s m args below meth c H locs cells slots (vx_MQ below Qc XC args s mc ms free) g := by
  intro T hT X
  obtain ⟨t, a1, o, b1, b2, b3, b4⟩ := k T hT X
  exact ⟨t, a1, o, b1, b2, Or.inl ⟨b3, b4⟩⟩
/-- not caught here: it goes on to the caller -/
theorem vx_widen {g : JFrame} {q : Addr} {k n : Nat} (h1 : cells ≤ k) (h2 : slots ≤ n) (kk : vx_W p l e R s m args below meth c H locs k n Q g q) : vx_W p l e R s m args below meth c H locs cells slots Q g q := fun T hT X => kk T hT (stand_widen X h1 h2)
theorem vx_out {pc : Nat} {E : String} {ce : Cell} {q : Addr} {mc ms : Nat} (hout : ∀ x ∈ c.exceptionTable.toList, covers x pc = false) (hlocks : meth.locks = false) (hcell : H[q]? = some ce) (hv : ce.vm = .none) (hcl : s.vm.findClass E = some ce.cls)
    (hx : ∀ t : State, t.heap = H → s.vm.Alike t.vm → XC E s t) (hf : ∀ z ∈ locs, free z.base) (hc : cells ≤ mc) (hs : slots ≤ ms) :
    vx_W p l e R s m args below meth c H locs cells slots (vx_MQ below Qc XC args s mc ms free) (F0 m pc ls rest) q := by
  intro T hT X
  obtain ⟨st1, hrun, hend, hW, hsm⟩ := X.leaveThrown q (g := F0 m pc ls rest) rfl rfl rfl hout hlocks
  have hcell9 : (T.setFrames (.throwing q :: below)).heap[q]? = some ce := by
    show T.heap[q]? = some ce
    rw [hT]; exact hcell
  exact ⟨_, st1, .threw q, hrun, hend, Or.inr ⟨q, rfl, E, ce, locs, hx _ hT hW.alike, hcell9, hv, hcl, hW, hsm.mono hc hs, hf⟩⟩
theorem vx_frame {U : State} {k n : Nat} (h : s.sameButNew ({ U with vm := s.vm } : State) locs k n) : s.heap.size ≤ U.heap.size ∧ ∀ q : Nat, q < s.heap.size → (∀ z ∈ locs, z.base ≠ q) → U.heap[q]? = s.heap[q]? := by
  obtain ⟨-, h2, -, -, -, h6⟩ := h
  refine ⟨h2, fun q hq hz => ?_⟩
  obtain ⟨c9, e1, e2, e3, e4⟩ := h6 q _ (Array.getElem?_eq_getElem hq)
  have hs : c9.slots = (s.heap[q]).slots := Array.ext_getElem? fun i => e4 i fun hm => hz _ hm rfl
  have h9 : c9 = s.heap[q] := by
    rw [hs] at e2
    exact e2
  have e5 : U.heap[q]? = some c9 := e1
  rw [e5, h9, Array.getElem?_eq_getElem hq]
/-- the words of a throw but the four that speak of the heap -/
def vx_no (w : Cond) : Bool := decide (w ≠ .isRef (.static Bundle.tN "UNASSIGNED_STACK" Bundle.steD)) && decide (w ≠ .isRef (.static Bundle.tN "SUPPRESSED_SENTINEL" Bundle.listD)) && decide (w ≠ .laysStatic Bundle.tN "UNASSIGNED_STACK" Bundle.steD) && decide (w ≠ .laysStatic Bundle.tN "SUPPRESSED_SENTINEL" Bundle.listD)
def vx_at0 (own : String) (ic : Nat) (X : String) (names : List String) : List Cond := (Bundle.ownAtoms0 own ic X names).filter vx_no
def vx_atS (own : String) (ic : Nat) (X : String) (names : List String) : List Cond := (Bundle.ownAtoms own ic X names).filter vx_no
/-- a word that the tables alone decide, or a good one -/
def vx_ot (w : Cond) : Bool := w.onTables || goodWord w
theorem vx_ot_at {args a' : Array Value} {s U : State} {w : Cond} (hW : s.WarmedH U.vm) (hvm : s.vm = U.vm) (hg : vx_ot w = true) (h : w.before args s = true) : w.before a' U = true := by
  simp only [vx_ot, Bool.or_eq_true] at hg
  rcases hg with hg | hg
  · exact va_tabs hg hvm h
  · exact word_at hW (good_of_word hg) h
/-- a list's words: the good ones out of the method's own list, the others by premises of their own -/
theorem vx_hat {args : Array Value} {s : State} {L B : List Cond} (h1 : ∀ w ∈ L.filter goodWord, w.before args s = true) (h2 : ∀ w ∈ L.filter (fun w => !goodWord w), w ∈ B) (h3 : ∀ w ∈ B, w.before args s = true) : ∀ w ∈ L, w.before args s = true := by
  intro w hw
  by_cases g : goodWord w = true
  · exact h1 w (List.mem_filter.mpr ⟨hw, g⟩)
  · refine h3 w (h2 w (List.mem_filter.mpr ⟨hw, ?_⟩))
    show (!goodWord w) = true
    cases hgw : goodWord w
    · rfl
    · exact absurd hgw g
theorem vx_c {args : Array Value} {s : State} {w : Cond} {B : List Cond} (h : w.before args s = true) (t : ∀ w ∈ B, w.before args s = true) : ∀ w' ∈ w :: B, w'.before args s = true := fun w' h' => (List.mem_cons.mp h').elim (fun e => by rw [e]; exact h) (t w')
theorem vx_n {args : Array Value} {s : State} : ∀ w ∈ ([] : List Cond), w.before args s = true := fun _ h => nomatch h
theorem vx_own {args : Array Value} {s : State} {L : List Cond} (h1 : ∀ w ∈ L.filter vx_no, w.before args s = true)
    (hU : (Cond.isRef (.static Bundle.tN "UNASSIGNED_STACK" Bundle.steD)).before args s = true) (hN : (Cond.isRef (.static Bundle.tN "SUPPRESSED_SENTINEL" Bundle.listD)).before args s = true)
    (lU : (Cond.laysStatic Bundle.tN "UNASSIGNED_STACK" Bundle.steD).before args s = true) (lN : (Cond.laysStatic Bundle.tN "SUPPRESSED_SENTINEL" Bundle.listD).before args s = true) : ∀ w ∈ L, w.before args s = true := by
  intro w hw
  by_cases e1 : w = .isRef (.static Bundle.tN "UNASSIGNED_STACK" Bundle.steD)
  · rw [e1]; exact hU
  · by_cases e2 : w = .isRef (.static Bundle.tN "SUPPRESSED_SENTINEL" Bundle.listD)
    · rw [e2]; exact hN
    · by_cases e3 : w = .laysStatic Bundle.tN "UNASSIGNED_STACK" Bundle.steD
      · rw [e3]; exact lU
      · by_cases e4 : w = .laysStatic Bundle.tN "SUPPRESSED_SENTINEL" Bundle.listD
        · rw [e4]; exact lN
        · exact h1 w (List.mem_filter.mpr ⟨hw, by unfold vx_no; rw [decide_eq_true e1, decide_eq_true e2, decide_eq_true e3, decide_eq_true e4]; rfl⟩)
/-- where a static field lies, its class's statics cell in H -/
def vx_L (C n d : String) (A : Nat → Prop) (U : State) (H : Heap) : Prop := ∃ (c : ClassId) (k : Class) (i : Nat) (f : Field) (a : Nat) (cell : Cell), U.vm.findClass C = some c ∧ U.fieldFound? C n d = some (c, k, i, f) ∧ f.isStatic = true ∧ k.statics = some a ∧ H[a]? = some cell ∧ cell.vm.isStatics = true ∧ cell.cls = c ∧ f.slot < cell.slots.size ∧ k.staticTypes[f.slot]? = some f.type ∧ ¬ A a
theorem vx_L.moved {C n d : String} {A : Nat → Prop} {u U : State} {H : Heap} (hvm : u.vm.Alike U.vm) (h : vx_L C n d A u H) : vx_L C n d A U H := by
  obtain ⟨c, k, i, f, a, cell, h1, h2, h3, h4, h5, h6, h7, h8, h9, h10⟩ := h
  obtain ⟨k', hi', he⟩ := State.fieldFound?_setVm hvm h2
  exact ⟨c, k', i, f, a, cell, by rw [hvm.findClass]; exact h1, hi', h3, by rw [he]; exact h4, h5, h6, h7, h8, by rw [he]; exact h9, h10⟩
theorem vx_L.kept {C n d : String} {A : Nat → Prop} {U : State} {H H1 : Heap} (h : vx_L C n d A U H) (hq : ∀ a : Nat, a < H.size → ¬ A a → H1[a]? = H[a]?) : vx_L C n d A U H1 := by
  obtain ⟨c, k, i, f, a, cell, h1, h2, h3, h4, h5, h6, h7, h8, h9, h10⟩ := h
  exact ⟨c, k, i, f, a, cell, h1, h2, h3, h4, by rw [hq a (Array.getElem?_eq_some_iff.mp h5).1 h10]; exact h5, h6, h7, h8, h9, h10⟩
theorem vx_L.narrow {C n d : String} {A B : Nat → Prop} {U : State} {H : Heap} (h : vx_L C n d A U H) (hAB : ∀ q, B q → A q) : vx_L C n d B U H := by
  obtain ⟨c, k, i, f, a, cell, h1, h2, h3, h4, h5, h6, h7, h8, h9, h10⟩ := h
  exact ⟨c, k, i, f, a, cell, h1, h2, h3, h4, h5, h6, h7, h8, h9, fun z => h10 (hAB _ z)⟩
theorem vx_L.word {C n d : String} {A : Nat → Prop} {s : State} {args : Array Value} (h : vx_L C n d A s s.heap) : (Cond.laysStatic C n d).before args s = true := by
  obtain ⟨c, k, i, f, a, cell, h1, h2, h3, h4, h5, h6, h7, h8, h9, -⟩ := h
  show (Cond.laysStatic C n d).holds args s none s [] = true
  exact Cond.laysStatic_of h1 h2 h3 h4 h5 h6 h7 h8 h9
/-- .. and what it holds: null or some reference -/
def vx_Zq (C n d : String) (A : Nat → Prop) (U : State) (H : Heap) : Prop := va_Zq C n d A U H ∧ vx_L C n d A U H
theorem vx_Zq.moved {C n d : String} {A : Nat → Prop} {u U : State} {H : Heap} (hvm : u.vm.Alike U.vm) (h : vx_Zq C n d A u H) : vx_Zq C n d A U H := ⟨va_Zq.moved hvm h.1, vx_L.moved hvm h.2⟩
theorem vx_Zq.kept {C n d : String} {A : Nat → Prop} {U : State} {H H1 : Heap} (h : vx_Zq C n d A U H) (hq : ∀ a : Nat, a < H.size → ¬ A a → H1[a]? = H[a]?) : vx_Zq C n d A U H1 := ⟨va_Zq.kept h.1 hq, vx_L.kept h.2 hq⟩
theorem vx_Zq.narrow {C n d : String} {A B : Nat → Prop} {U : State} {H : Heap} (h : vx_Zq C n d A U H) (hAB : ∀ q, B q → A q) : vx_Zq C n d B U H := ⟨va_Zq.narrow h.1 hAB, vx_L.narrow h.2 hAB⟩
theorem vx_Zqof {args : Array Value} {s : State} {C n d : String} {A : Nat → Prop} (hl : (Cond.laysStatic C n d).before args s = true) (hini : (Cond.initialized C).before args s = true) (h : (Cond.isRef (.static C n d)).before args s = true) (hA : ∀ a : Nat, a < s.heap.size → ¬ A a) : vx_Zq C n d A s s.heap := by
  refine ⟨va_Zqof hl hini h hA, ?_⟩
  obtain ⟨c, k, i, f, a, cell, h1, h2, h3, h4, h5, h6, h7, h8, h9⟩ := Cond.laysStatic_spec hl
  exact ⟨c, k, i, f, a, cell, h1, h2, h3, h4, h5, h6, h7, h8, h9, hA a (Array.getElem?_eq_some_iff.mp h5).1⟩
theorem vx_isRef {C n d : String} {v : Value} {A : Nat → Prop} {s : State} {args : Array Value} (h : va_Z C n d v A s s.heap) (hv : v.isRef = true) : (Cond.isRef (.static C n d)).before args s = true := by
  obtain ⟨cf, kf, fi, f, a, cell, h1, h2, h3, h4, h5, h6, h7, -⟩ := h
  have he : (Term.static C n d).eval args s none [] s = some v := by
    simp [Term.eval, State.fieldNamed?, h1, h2, h4, h5, h6, h7]
  simp only [Cond.before, Cond.holds, Cond.value, he]
  cases v <;> simp_all [Value.isRef]
theorem vx_isRefq {C n d : String} {A : Nat → Prop} {s : State} {args : Array Value} (h : va_Zq C n d A s s.heap) : (Cond.isRef (.static C n d)).before args s = true := by
  rcases h with h | ⟨t, h⟩
  · exact vx_isRef h rfl
  · exact vx_isRef h rfl
/-- the same frame, seen from here: as if the method were called anew in this heap -/
theorem vx_rebase {T : State} (X : Stand p l e R s m args below meth c T locs cells slots) {R' : Room} (hf : R'.frames ≤ R.frames) (hl : R'.locals ≤ R.locals) (hc : cells + R'.cells ≤ R.cells) (hs : slots + R'.slots ≤ R.slots) :
    Stand p l e R' ((T.setVm s.vm).setFrames (.invoking m args :: below)) m args below meth c T [] 0 0 := by
  have htop : (T.setVm s.vm).topJava?.isSome := X.here.top
  have hF : ((T.setVm s.vm).setFrames (.invoking m args :: below)).frames = .invoking m args :: below := State.frames_setFrames _ (State.cur_lt_of_top htop)
  obtain ⟨g₀, hg0⟩ := Option.isSome_iff_exists.mp htop
  obtain ⟨r, hr⟩ := State.topJava?_eq_some.mp hg0
  have hl9 : e.platform.stackLimits (T.setVm s.vm).me = e.platform.stackLimits s.me := X.limits
  have hb9 : (T.setVm s.vm).me.stackBytes = s.me.stackBytes := X.bytes
  refine ⟨X.admits, X.cas, X.clock, hF, ?_, X.hears, X.method, X.code, X.here, X.tail, X.warmed, ?_, ?_, ?_⟩
  · have h := X.room
    have hU : ((T.setVm s.vm).setFrames (.invoking m args :: below)).localsInUse = s.localsInUse := by
      rw [State.localsInUse_invoking hF (meth := meth) (c := c) X.method X.code, State.localsInUse_invoking X.frames X.method X.code]
    simp only [State.hasRoom, Bool.and_eq_true, decide_eq_true_eq] at h ⊢
    obtain ⟨⟨⟨⟨h1, h2, h3, h4, h5, h6⟩, h7⟩, h8⟩, h9⟩ := h
    rw [X.frames, List.length_cons] at h2 h3
    have q1 := X.heapSize
    have q2 := X.used
    simp only [hF, hU, List.length_cons, State.stackLimits_setFrames, State.stackBytes_setFrames, hl9, hb9]
    refine ⟨⟨⟨⟨by omega, by omega, by omega, by omega, by omega, h6⟩, ?_⟩, ?_⟩, X.book⟩
    · show T.heap.size + R'.cells ≤ e.platform.maxCells
      omega
    · show T.slotsUsed + R'.slots ≤ e.platform.maxSlots
      omega
  · rw [State.stackLimits_setFrames]; rfl
  · rw [State.stackBytes_setFrames]; rfl
  · refine ⟨?_, Nat.le_refl _, Nat.le_refl _, ?_, ?_, fun a c9 h9 => ⟨c9, h9, rfl, rfl, fun _ _ => rfl⟩⟩
    · obtain ⟨t, ht, -⟩ := State.frames_cons hr
      show T.setVm s.vm = { ((T.setVm s.vm).setFrames (.invoking m args :: below)).setFrames (T.setVm s.vm).frames with heap := T.heap, slotsUsed := T.slotsUsed }
      rw [State.setFrames_setFrames, State.setFrames_self ht]
      rfl
    · show T.slotsUsed = T.slotsUsed + ((T.heap.toList.drop T.heap.size).map (·.slots.size)).sum
      rw [List.drop_eq_nil_of_le (Nat.le_of_eq Array.length_toList)]
      rfl
    · show ((T.heap.toList.drop T.heap.size).map (·.slots.size)).sum ≤ 0
      rw [List.drop_eq_nil_of_le (Nat.le_of_eq Array.length_toList)]
      exact Nat.le_refl _
/-- 'throw new E()': new; dup; invokespecial; athrow -/
theorem vx_throw0 {cc : ByteArray} {pc : Nat} (hexec : p.tables.exec = Jvm.exec) (hb : c.code = cc) (hl : l.stackTraces = false) {own cls : String} {names : List String} {ik ic mc ms : Nat} {A : Nat → Prop}
    (hown : s.vm.findClass own = some m.cls) (hcls : Bundle.fit cls = true) (hnames : ∀ n ∈ names, Bundle.fit n = true)
    (hk : (Cond.classLink own ik cls).before args s = true) (hini : (Cond.initialized cls).before args s = true) (hat : ∀ w ∈ vx_at0 own ic cls names, w.before args s = true)
    (hgood : ∀ w ∈ Cond.classLink own ik cls :: Cond.initialized cls :: vx_at0 own ic cls names, vx_ot w = true)
    (hU : vx_Zq Bundle.tN "UNASSIGNED_STACK" Bundle.steD A s s.heap) (hN : vx_Zq Bundle.tN "SUPPRESSED_SENTINEL" Bundle.listD A s s.heap) (hS : va_S A s.heap H locs) (hsize : ls.size = c.maxLocals)
    (d0 : decode cc pc = .ok (.new ik, 3)) (d3 : decode cc (pc + 3) = .ok (.dup, 1)) (d4 : decode cc (pc + 4) = .ok (.invokespecial ic, 3)) (d7 : decode cc (pc + 7) = .ok (.athrow, 1))
    (hout : ∀ x ∈ c.exceptionTable.toList, covers x (pc + 7) = false)
    (hRframes : names.length + 3 < R.frames) (hRlocals : (rest.map fun v => v.category).sum + (13 * (names.length + 1) + 42) ≤ R.locals) (hRcells : cells + 1 ≤ R.cells) (hRslots : slots + 6 ≤ R.slots) (hlocks : meth.locks = false)
    (hx : ∀ t : State, s.vm.Alike t.vm → H.size ≤ t.heap.size → (∀ q : Nat, q < H.size → t.heap[q]? = H[q]?) → XC cls s t)
    (hf : ∀ z ∈ locs, free z.base) (hc : cells + 1 ≤ mc) (hs : slots + 6 ≤ ms) :
    W p l e R s m args below meth c H locs cells slots (vx_MQ below Qc XC args s mc ms free) (F0 m pc ls rest) := by
  intro T hT X
  have htr : e.platform.stackTraces = false := (show e.platform.stackTraces = l.stackTraces by rw [X.admits.platform]).trans hl
  have Y := vx_rebase X (R' := { frames := R.frames, locals := R.locals, cells := 1, slots := 6 }) (Nat.le_refl _) (Nat.le_refl _) hRcells hRslots
  obtain ⟨s', hA⟩ : ∃ z, z = (T.setVm s.vm).setFrames (.invoking m args :: below) := ⟨_, rfl⟩
  rw [← hA] at Y
  have hvm : s'.vm = s.vm := by rw [hA]; rfl
  have hhp : s'.heap = H := by rw [hA]; exact hT
  have hW0 : s.WarmedH s'.vm := by rw [hvm]; exact State.WarmedH.refl s
  have hat' : ∀ w ∈ vx_at0 own ic cls names, w.before args s' = true := fun w hw => vx_ot_at hW0 hvm.symm (hgood w (List.mem_cons_of_mem _ (List.mem_cons_of_mem _ hw))) (hat w hw)
  have hk' : (Cond.classLink own ik cls).before args s' = true := vx_ot_at hW0 hvm.symm (hgood _ List.mem_cons_self) hk
  have hini' : (Cond.initialized cls).before args s' = true := vx_ot_at hW0 hvm.symm (hgood _ (List.mem_cons_of_mem _ List.mem_cons_self)) hini
  have hU' : vx_Zq Bundle.tN "UNASSIGNED_STACK" Bundle.steD A s' s'.heap := by rw [hhp]; exact vx_Zq.moved hW0.alike (hU.kept hS.2.1)
  have hN' : vx_Zq Bundle.tN "SUPPRESSED_SENTINEL" Bundle.listD A s' s'.heap := by rw [hhp]; exact vx_Zq.moved hW0.alike (hN.kept hS.2.1)
  have h : ∀ w ∈ Bundle.ownAtoms0 own ic cls names, w.before args s' = true := vx_own hat' (vx_isRefq hU'.1) (vx_isRefq hN'.1) hU'.2.word hN'.2.word
  have hown' : s'.vm.findClass own = some m.cls := by rw [hvm]; exact hown
  have hins : (Cond.instantiable cls 6).before args s' = true := h _ (by simp [Bundle.ownAtoms0])
  obtain ⟨vm₁, cX, kX, hfX, hkX, -, -, X₁, st1⟩ := Y.newCold hexec (own := own) (C := cls) (index := ik) (n := 6) hown' hk' hins hini'
    (g := F0 m pc ls rest) rfl (by rw [hb]; exact d0) (Nat.le_refl _) (Nat.le_refl _)
  generalize hT1 : (T.setVm vm₁).pushCell { cls := cX, slots := kX.instanceTypes.map defaultValue, vm := .none } = T1 at X₁ st1
  have hcat : (Value.ref T.heap.size).category = 1 := rfl
  have hcellA : T1.heap[T.heap.size]? = some (freshCell cX kX) := by rw [← hT1]; exact State.heap_pushCell_size _ _
  have d3' : decode c.code (pc + 3) = .ok (.dup, 1) := by rw [hb]; exact d3
  obtain ⟨U, hsteps, hrun, hend, hW, hsame, ce, hce, hO⟩ := X₁.ctorThrow0 hexec htr (own := own) (cls := cls) (names := names) (ic := ic) hown' hcls hnames h (fun x hx => nomatch hx) hfX hkX hcellA (by rw [hhp, hT]; exact Nat.le_refl _)
    (g := { method := m, pc := pc + 4, locals := ls, stack := .ref T.heap.size :: .ref T.heap.size :: rest, locked := none }) rfl hsize rfl rfl (rest := rest) rfl
    (by rw [hb]; exact d4) (by rw [hb]; exact d7) hout hRframes (by simp only [List.map_cons, List.sum_cons, hcat]; omega) hlocks
  obtain ⟨f1, f2⟩ := vx_frame hsame
  rw [hhp] at f1 f2
  have hWs : s.WarmedH U.vm := State.WarmedH.trans hW0 hW
  have hcl : s.vm.findClass cls = some ce.cls := by
    have h9 := hO.cls
    rw [hvm] at h9
    exact h9
  have hall : s.sameButNew ({ U with vm := s.vm } : State) locs mc ms := by
    subst hA
    obtain ⟨e1, e2⟩ := hsame
    rw [State.setFrames_setFrames] at e1
    have h2 : (T.setVm s.vm).sameButNew ({ U with vm := s.vm } : State) [] (0 + 1) (0 + 6) := ⟨e1, e2⟩
    have h3 := X.same.trans h2
    rw [List.append_nil] at h3
    exact h3.mono hc hs
  refine ⟨U, ?_, .threw T.heap.size, hrun, hend, Or.inr ⟨T.heap.size, rfl, cls, ce, locs, hx U hWs.alike f1 (fun q hq => f2 q hq (fun z hz => nomatch hz)), hce, hO.vm, hcl, hWs, hall, hf⟩⟩
  refine st1 _ ?_
  show Steps p.tables e below (T1.setTop { method := m, pc := pc + 3, locals := ls, stack := .ref T.heap.size :: rest, locked := none }) _
  jvm_step X₁.here [X₁.here.top, hexec, d3', Value.category]
  exact hsteps
/-- 'throw new E("text")': new; dup; ldc; invokespecial; athrow -/
theorem vx_throwS {cc : ByteArray} {pc : Nat} (hexec : p.tables.exec = Jvm.exec) (hb : c.code = cc) (hl : l.stackTraces = false) {own cls text : String} {names : List String} {ik is ic mc ms sa : Nat} {A : Nat → Prop}
    (hown : s.vm.findClass own = some m.cls) (hcls : Bundle.fit cls = true) (hnames : ∀ n ∈ names, Bundle.fit n = true)
    (hk : (Cond.classLink own ik cls).before args s = true) (hini : (Cond.initialized cls).before args s = true) (hstr : vk_R own is text sa s) (hat : ∀ w ∈ vx_atS own ic cls names, w.before args s = true)
    (hgood : ∀ w ∈ Cond.classLink own ik cls :: Cond.initialized cls :: vx_atS own ic cls names, vx_ot w = true)
    (hU : vx_Zq Bundle.tN "UNASSIGNED_STACK" Bundle.steD A s s.heap) (hN : vx_Zq Bundle.tN "SUPPRESSED_SENTINEL" Bundle.listD A s s.heap) (hS : va_S A s.heap H locs) (hsize : ls.size = c.maxLocals)
    (d0 : decode cc pc = .ok (.new ik, 3)) (d3 : decode cc (pc + 3) = .ok (.dup, 1)) (d4 : decode cc (pc + 4) = .ok (.ldc is, 2)) (d6 : decode cc (pc + 6) = .ok (.invokespecial ic, 3)) (d9 : decode cc (pc + 9) = .ok (.athrow, 1))
    (hout : ∀ x ∈ c.exceptionTable.toList, covers x (pc + 9) = false)
    (hRframes : names.length + 3 < R.frames) (hRlocals : (rest.map fun v => v.category).sum + (13 * (names.length + 1) + 43) ≤ R.locals) (hRcells : cells + 1 ≤ R.cells) (hRslots : slots + 6 ≤ R.slots) (hlocks : meth.locks = false)
    (hx : ∀ t : State, s.vm.Alike t.vm → H.size ≤ t.heap.size → (∀ q : Nat, q < H.size → t.heap[q]? = H[q]?) → XC cls s t)
    (hf : ∀ z ∈ locs, free z.base) (hc : cells + 1 ≤ mc) (hs : slots + 6 ≤ ms) :
    W p l e R s m args below meth c H locs cells slots (vx_MQ below Qc XC args s mc ms free) (F0 m pc ls rest) := by
  intro T hT X
  have htr : e.platform.stackTraces = false := (show e.platform.stackTraces = l.stackTraces by rw [X.admits.platform]).trans hl
  have Y := vx_rebase X (R' := { frames := R.frames, locals := R.locals, cells := 1, slots := 6 }) (Nat.le_refl _) (Nat.le_refl _) hRcells hRslots
  obtain ⟨s', hA⟩ : ∃ z, z = (T.setVm s.vm).setFrames (.invoking m args :: below) := ⟨_, rfl⟩
  rw [← hA] at Y
  have hvm : s'.vm = s.vm := by rw [hA]; rfl
  have hhp : s'.heap = H := by rw [hA]; exact hT
  have hW0 : s.WarmedH s'.vm := by rw [hvm]; exact State.WarmedH.refl s
  have hat' : ∀ w ∈ vx_atS own ic cls names, w.before args s' = true := fun w hw => vx_ot_at hW0 hvm.symm (hgood w (List.mem_cons_of_mem _ (List.mem_cons_of_mem _ hw))) (hat w hw)
  have hk' : (Cond.classLink own ik cls).before args s' = true := vx_ot_at hW0 hvm.symm (hgood _ List.mem_cons_self) hk
  have hini' : (Cond.initialized cls).before args s' = true := vx_ot_at hW0 hvm.symm (hgood _ (List.mem_cons_of_mem _ List.mem_cons_self)) hini
  have hU' : vx_Zq Bundle.tN "UNASSIGNED_STACK" Bundle.steD A s' s'.heap := by rw [hhp]; exact vx_Zq.moved hW0.alike (hU.kept hS.2.1)
  have hN' : vx_Zq Bundle.tN "SUPPRESSED_SENTINEL" Bundle.listD A s' s'.heap := by rw [hhp]; exact vx_Zq.moved hW0.alike (hN.kept hS.2.1)
  have h : ∀ w ∈ Bundle.ownAtoms own ic cls names, w.before args s' = true := vx_own hat' (vx_isRefq hU'.1) (vx_isRefq hN'.1) hU'.2.word hN'.2.word
  have hown' : s'.vm.findClass own = some m.cls := by rw [hvm]; exact hown
  have hins : (Cond.instantiable cls 6).before args s' = true := h _ (by simp [Bundle.ownAtoms])
  obtain ⟨vm₁, cX, kX, hfX, hkX, -, -, X₁, st1⟩ := Y.newCold hexec (own := own) (C := cls) (index := ik) (n := 6) hown' hk' hins hini'
    (g := F0 m pc ls rest) rfl (by rw [hb]; exact d0) (Nat.le_refl _) (Nat.le_refl _)
  generalize hT1 : (T.setVm vm₁).pushCell { cls := cX, slots := kX.instanceTypes.map defaultValue, vm := .none } = T1 at X₁ st1
  have hcat : (Value.ref T.heap.size).category = 1 := rfl
  have hcellA : T1.heap[T.heap.size]? = some (freshCell cX kX) := by rw [← hT1]; exact State.heap_pushCell_size _ _
  have d3' : decode c.code (pc + 3) = .ok (.dup, 1) := by rw [hb]; exact d3
  have d4' : decode c.code (pc + 4) = .ok (.ldc is, 2) := by rw [hb]; exact d4
  have hstr' : vk_R own is text sa s' := vk_R.warm hW0 hstr
  obtain ⟨U, hsteps, hrun, hend, hW, hsame, ce, hce, hO⟩ := X₁.ctorThrowS hexec htr (own := own) (cls := cls) (names := names) (ic := ic) hown' hcls hnames h (fun x hx => nomatch hx) hfX hkX hcellA (by rw [hhp, hT]; exact Nat.le_refl _) (msg := .ref sa) rfl
    (g := { method := m, pc := pc + 6, locals := ls, stack := .ref sa :: .ref T.heap.size :: .ref T.heap.size :: rest, locked := none }) rfl hsize rfl rfl (rest := rest) rfl
    (by rw [hb]; exact d6) (by rw [hb]; exact d9) hout hRframes (by simp only [List.map_cons, List.sum_cons, hcat]; omega) hlocks
  obtain ⟨f1, f2⟩ := vx_frame hsame
  rw [hhp] at f1 f2
  have hWs : s.WarmedH U.vm := State.WarmedH.trans hW0 hW
  have hcl : s.vm.findClass cls = some ce.cls := by
    have h9 := hO.cls
    rw [hvm] at h9
    exact h9
  have hall : s.sameButNew ({ U with vm := s.vm } : State) locs mc ms := by
    subst hA
    obtain ⟨e1, e2⟩ := hsame
    rw [State.setFrames_setFrames] at e1
    have h2 : (T.setVm s.vm).sameButNew ({ U with vm := s.vm } : State) [] (0 + 1) (0 + 6) := ⟨e1, e2⟩
    have h3 := X.same.trans h2
    rw [List.append_nil] at h3
    exact h3.mono hc hs
  refine ⟨U, ?_, .threw T.heap.size, hrun, hend, Or.inr ⟨T.heap.size, rfl, cls, ce, locs, hx U hWs.alike f1 (fun q hq => f2 q hq (fun z hz => nomatch hz)), hce, hO.vm, hcl, hWs, hall, hf⟩⟩
  refine st1 _ ?_
  show Steps p.tables e below (T1.setTop { method := m, pc := pc + 3, locals := ls, stack := .ref T.heap.size :: rest, locked := none }) _
  jvm_step X₁.here [X₁.here.top, hexec, d3', Value.category]
  exact X₁.ldcString hexec (own := own) (text := text) (index := is) (a := sa) hown' hstr'.1 hstr'.2
    (g := { method := m, pc := pc + 4, locals := ls, stack := .ref T.heap.size :: .ref T.heap.size :: rest, locked := none }) rfl d4' _ hsteps
/-- 'throw new E("text")', the text by a wide index -/
theorem vx_throwSW {cc : ByteArray} {pc : Nat} (hexec : p.tables.exec = Jvm.exec) (hb : c.code = cc) (hl : l.stackTraces = false) {own cls text : String} {names : List String} {ik is ic mc ms sa : Nat} {A : Nat → Prop}
    (hown : s.vm.findClass own = some m.cls) (hcls : Bundle.fit cls = true) (hnames : ∀ n ∈ names, Bundle.fit n = true)
    (hk : (Cond.classLink own ik cls).before args s = true) (hini : (Cond.initialized cls).before args s = true) (hstr : vk_R own is text sa s) (hat : ∀ w ∈ vx_atS own ic cls names, w.before args s = true)
    (hgood : ∀ w ∈ Cond.classLink own ik cls :: Cond.initialized cls :: vx_atS own ic cls names, vx_ot w = true)
    (hU : vx_Zq Bundle.tN "UNASSIGNED_STACK" Bundle.steD A s s.heap) (hN : vx_Zq Bundle.tN "SUPPRESSED_SENTINEL" Bundle.listD A s s.heap) (hS : va_S A s.heap H locs) (hsize : ls.size = c.maxLocals)
    (d0 : decode cc pc = .ok (.new ik, 3)) (d3 : decode cc (pc + 3) = .ok (.dup, 1)) (d4 : decode cc (pc + 4) = .ok (.ldc_w is, 3)) (d7 : decode cc (pc + 7) = .ok (.invokespecial ic, 3)) (d10 : decode cc (pc + 10) = .ok (.athrow, 1))
    (hout : ∀ x ∈ c.exceptionTable.toList, covers x (pc + 10) = false)
    (hRframes : names.length + 3 < R.frames) (hRlocals : (rest.map fun v => v.category).sum + (13 * (names.length + 1) + 43) ≤ R.locals) (hRcells : cells + 1 ≤ R.cells) (hRslots : slots + 6 ≤ R.slots) (hlocks : meth.locks = false)
    (hx : ∀ t : State, s.vm.Alike t.vm → H.size ≤ t.heap.size → (∀ q : Nat, q < H.size → t.heap[q]? = H[q]?) → XC cls s t)
    (hf : ∀ z ∈ locs, free z.base) (hc : cells + 1 ≤ mc) (hs : slots + 6 ≤ ms) :
    W p l e R s m args below meth c H locs cells slots (vx_MQ below Qc XC args s mc ms free) (F0 m pc ls rest) := by
  intro T hT X
  have htr : e.platform.stackTraces = false := (show e.platform.stackTraces = l.stackTraces by rw [X.admits.platform]).trans hl
  have Y := vx_rebase X (R' := { frames := R.frames, locals := R.locals, cells := 1, slots := 6 }) (Nat.le_refl _) (Nat.le_refl _) hRcells hRslots
  obtain ⟨s', hA⟩ : ∃ z, z = (T.setVm s.vm).setFrames (.invoking m args :: below) := ⟨_, rfl⟩
  rw [← hA] at Y
  have hvm : s'.vm = s.vm := by rw [hA]; rfl
  have hhp : s'.heap = H := by rw [hA]; exact hT
  have hW0 : s.WarmedH s'.vm := by rw [hvm]; exact State.WarmedH.refl s
  have hat' : ∀ w ∈ vx_atS own ic cls names, w.before args s' = true := fun w hw => vx_ot_at hW0 hvm.symm (hgood w (List.mem_cons_of_mem _ (List.mem_cons_of_mem _ hw))) (hat w hw)
  have hk' : (Cond.classLink own ik cls).before args s' = true := vx_ot_at hW0 hvm.symm (hgood _ List.mem_cons_self) hk
  have hini' : (Cond.initialized cls).before args s' = true := vx_ot_at hW0 hvm.symm (hgood _ (List.mem_cons_of_mem _ List.mem_cons_self)) hini
  have hU' : vx_Zq Bundle.tN "UNASSIGNED_STACK" Bundle.steD A s' s'.heap := by rw [hhp]; exact vx_Zq.moved hW0.alike (hU.kept hS.2.1)
  have hN' : vx_Zq Bundle.tN "SUPPRESSED_SENTINEL" Bundle.listD A s' s'.heap := by rw [hhp]; exact vx_Zq.moved hW0.alike (hN.kept hS.2.1)
  have h : ∀ w ∈ Bundle.ownAtoms own ic cls names, w.before args s' = true := vx_own hat' (vx_isRefq hU'.1) (vx_isRefq hN'.1) hU'.2.word hN'.2.word
  have hown' : s'.vm.findClass own = some m.cls := by rw [hvm]; exact hown
  have hins : (Cond.instantiable cls 6).before args s' = true := h _ (by simp [Bundle.ownAtoms])
  obtain ⟨vm₁, cX, kX, hfX, hkX, -, -, X₁, st1⟩ := Y.newCold hexec (own := own) (C := cls) (index := ik) (n := 6) hown' hk' hins hini'
    (g := F0 m pc ls rest) rfl (by rw [hb]; exact d0) (Nat.le_refl _) (Nat.le_refl _)
  generalize hT1 : (T.setVm vm₁).pushCell { cls := cX, slots := kX.instanceTypes.map defaultValue, vm := .none } = T1 at X₁ st1
  have hcat : (Value.ref T.heap.size).category = 1 := rfl
  have hcellA : T1.heap[T.heap.size]? = some (freshCell cX kX) := by rw [← hT1]; exact State.heap_pushCell_size _ _
  have d3' : decode c.code (pc + 3) = .ok (.dup, 1) := by rw [hb]; exact d3
  have d4' : decode c.code (pc + 4) = .ok (.ldc_w is, 3) := by rw [hb]; exact d4
  have hstr' : vk_R own is text sa s' := vk_R.warm hW0 hstr
  obtain ⟨U, hsteps, hrun, hend, hW, hsame, ce, hce, hO⟩ := X₁.ctorThrowS hexec htr (own := own) (cls := cls) (names := names) (ic := ic) hown' hcls hnames h (fun x hx => nomatch hx) hfX hkX hcellA (by rw [hhp, hT]; exact Nat.le_refl _) (msg := .ref sa) rfl
    (g := { method := m, pc := pc + 7, locals := ls, stack := .ref sa :: .ref T.heap.size :: .ref T.heap.size :: rest, locked := none }) rfl hsize rfl rfl (rest := rest) rfl
    (by rw [hb]; exact d7) (by rw [hb]; exact d10) hout hRframes (by simp only [List.map_cons, List.sum_cons, hcat]; omega) hlocks
  obtain ⟨f1, f2⟩ := vx_frame hsame
  rw [hhp] at f1 f2
  have hWs : s.WarmedH U.vm := State.WarmedH.trans hW0 hW
  have hcl : s.vm.findClass cls = some ce.cls := by
    have h9 := hO.cls
    rw [hvm] at h9
    exact h9
  have hall : s.sameButNew ({ U with vm := s.vm } : State) locs mc ms := by
    subst hA
    obtain ⟨e1, e2⟩ := hsame
    rw [State.setFrames_setFrames] at e1
    have h2 : (T.setVm s.vm).sameButNew ({ U with vm := s.vm } : State) [] (0 + 1) (0 + 6) := ⟨e1, e2⟩
    have h3 := X.same.trans h2
    rw [List.append_nil] at h3
    exact h3.mono hc hs
  refine ⟨U, ?_, .threw T.heap.size, hrun, hend, Or.inr ⟨T.heap.size, rfl, cls, ce, locs, hx U hWs.alike f1 (fun q hq => f2 q hq (fun z hz => nomatch hz)), hce, hO.vm, hcl, hWs, hall, hf⟩⟩
  refine st1 _ ?_
  show Steps p.tables e below (T1.setTop { method := m, pc := pc + 3, locals := ls, stack := .ref T.heap.size :: rest, locked := none }) _
  jvm_step X₁.here [X₁.here.top, hexec, d3', Value.category]
  exact X₁.ldcStringW hexec (own := own) (text := text) (index := is) (a := sa) hown' hstr'.1 hstr'.2
    (g := { method := m, pc := pc + 4, locals := ls, stack := .ref T.heap.size :: .ref T.heap.size :: rest, locked := none }) rfl d4' _ hsteps
end Ends
section Bodies
variable {l : Launch}
theorem vx_ofW {y : MethodName} {ws ws' : List Cond} {rm : Room} {Pc : Array Value → State → Prop} {Qc : Array Value → State → Outcome → State → Prop} {XC : String → State → State → Prop} {mc ms : Nat} {free : Addr → Prop} {cc : ByteArray} {maxL : Nat} {ret : Option FieldType}
    (hy : plainName y.cls = true) (hw : ws = Cond.code y cc maxL ret :: ws')
    (body : ∀ p e s m args below meth c s₁, BodyLoose p l y (headSpec ws rm) cc maxL ret e s m args below meth c s₁ → c.maxLocals = maxL → (∀ x ∈ c.exceptionTable.toList, False) → Pc args s →
      W p l e (headSpec ws rm).room s m args below meth c s.heap [] 0 0 (vx_MQ below Qc XC args s mc ms free) (entryFrame m args maxL)) : vx_Met l y ws rm Pc Qc XC mc ms free := by
  refine MetFree.of_bodyS (code := cc) (maxLocals := maxL) (ret := ret) hy ?_ ?_
  · intro args s m h hn
    obtain ⟨meth, c, h1, h2, h3, h4, h5, h6, -, -⟩ := Cond.code_spec hn (atoms_spec (ws := ws) h _ (by rw [hw]; exact List.mem_cons_self))
    exact ⟨meth, c, h1, h2, h3, h4, h5, h6⟩
  · intro p e s m args below meth c s₁ B hml hP _
    have hh0 : s₁.heap = s.heap := by rw [B.state]; rfl
    have ht : ∀ x ∈ c.exceptionTable.toList, False := by
      obtain ⟨meth9, c9, h1, h2, -, -, -, -, h7, -⟩ := Cond.code_spec B.named (atoms_spec (ws := ws) B.pre _ (by rw [hw]; exact List.mem_cons_self))
      cases Option.some.inj (h1.symm.trans B.method)
      cases Option.some.inj (h2.symm.trans (Stand.of_body B).code)
      intro x hx
      rw [Array.isEmpty_iff.mp h7] at hx
      cases hx
    obtain ⟨t, a1, o, b1, b2, b3⟩ := body p e s m args below meth c s₁ B hml ht hP s₁ hh0 (Stand.of_body B)
    exact ⟨t, o, a1, b1, b2, b3⟩
/-- the table of a body with handlers -/
theorem vx_table {p : Program} {x y : MethodName} {S : Spec} {cc bytes : ByteArray} {maxL maxL' : Nat} {ret ret' : Option FieldType} {e : Env} {s s₁ : State} {m : MethodId} {args : Array Value} {below : List Frame} {meth : Method} {c : Code} {hh : List (Nat × Nat × Nat × Nat)}
    (B : BodyLoose p l y S cc maxL ret e s m args below meth c s₁) (h : (Cond.codeWith y bytes maxL' ret' hh).before args s = true) : c.exceptionTable.toList = tableOf hh := by
  obtain ⟨m9, meth9, c9, hn9, h1, h2, -, -, h6, -⟩ := Cond.codeWith_spec h
  cases Option.some.inj (hn9.symm.trans B.named)
  cases Option.some.inj (h1.symm.trans B.method)
  cases Option.some.inj (h2.symm.trans (Stand.of_body B).code)
  rw [← h6, table_eq]
end Bodies
end VXA
/-! ===== END ===== -/
/-! ===== BEGIN a static call of a method with an exception table ===== -/
section VXS
variable {p : Program} {l : Launch} {e : Env} {R : Room} {s : State} {m : MethodId} {args : Array Value} {below : List Frame} {meth : Method} {c : Code} {T : State} {H : Heap} {locs : List Loc} {cells slots : Nat}
abbrev vx_CSW (R : Room) (s : State) (args : Array Value) (own : String) (index : Nat) (y : MethodName) (bytes : ByteArray) (maxL : Nat) (ret : Option FieldType) (hh : List (Nat × Nat × Nat × Nat)) (ws : List Cond) (rm : Room) (mc ms n : Nat) : Prop :=
  (rm.cells = mc ∧ rm.slots = ms ∧ rm.frames + 1 ≤ R.frames ∧ 8 + (maxL + 11) + rm.locals ≤ R.locals ∧ (∀ w ∈ ws, ∀ (a' : Array Value) (U : State), s.WarmedH U.vm → w.before a' U = true) ∧ Cond.codeWith y bytes maxL ret hh ∈ ws) ∧
  (Cond.codeWith y bytes maxL ret hh).before args s = true ∧ (Cond.initialized y.cls).before args s = true ∧ (y.cls ≠ "java/lang/invoke/MethodHandle" ∧ y.cls ≠ "java/lang/invoke/VarHandle") ∧
  (∀ sig, parseMethodDescriptor y.desc = some sig → n = sig.parameters.length) ∧ (Cond.methodLink own index y).before args s = true ∧ (Cond.static y).before args s = true
theorem vx_cwSW {own : String} {index maxL mc ms : Nat} {y : MethodName} {bytes : ByteArray} {ret : Option FieldType} {hh : List (Nat × Nat × Nat × Nat)} {Ts ws ws' : List Cond} {rm : Room} (n : Nat) (ht : ∀ w ∈ Ts, w.before args s = true) (hT : GoodIn Ts (va_wsS own index y ws)) (hw : ws = Cond.codeWith y bytes maxL ret hh :: ws') (hrc : rm.cells = mc) (hrs : rm.slots = ms)
    (hd : y.cls ≠ "java/lang/invoke/MethodHandle" ∧ y.cls ≠ "java/lang/invoke/VarHandle" ∧ (parseMethodDescriptor y.desc).map (fun d => d.parameters.length) = some n) (hR : rm.frames + 1 ≤ R.frames ∧ 8 + (maxL + 11) + rm.locals ≤ R.locals) :
    vx_CSW R s args own index y bytes maxL ret hh ws rm mc ms n := by
  have ok : ∀ w ∈ va_wsS own index y ws, w.before args s = true := fun w h => ht w (hT w h).1
  have hG : GoodIn Ts ws := fun w h => hT w (by unfold va_wsS; exact List.mem_append_right _ h)
  have hc : Cond.codeWith y bytes maxL ret hh ∈ ws := by rw [hw]; exact List.mem_cons_self
  refine ⟨⟨hrc, hrs, hR.1, hR.2, pay_in ht hG, hc⟩, ht _ (hG _ hc).1, ok _ (by simp [va_wsS]), ⟨hd.1, hd.2.1⟩, fun sig h => ?_, ok _ (by simp [va_wsS]), ok _ (by simp [va_wsS])⟩
  have h2 := hd.2.2
  rw [h] at h2
  exact (Option.some.inj h2).symm
theorem vx_callSW (X : Stand p l e R s m args below meth c T locs cells slots) (hexec : p.tables.exec = Jvm.exec) {own : String} {index : Nat} {y : MethodName} {bytes : ByteArray} {maxL : Nat} {ret : Option FieldType} {hh : List (Nat × Nat × Nat × Nat)}
    (hown : s.vm.findClass own = some m.cls) (hlink : (Cond.methodLink own index y).before args s = true) (hstat : (Cond.static y).before args s = true) (hinit : (Cond.initialized y.cls).before args s = true)
    (hcode : (Cond.codeWith y bytes maxL ret hh).before args s = true) (hy : y.cls ≠ "java/lang/invoke/MethodHandle" ∧ y.cls ≠ "java/lang/invoke/VarHandle")
    {W9 : Nat} {Pre : Pt → Array Value → Prop} {Post : Pt → Array Value → Option Value → Pt → Prop} (hK : Back l R p e below s args y 3 W9 Pre Post)
    {g : JFrame} (hg : g.method = m) (hsize : g.locals.size = c.maxLocals) {argsL rest : List Value} (hlen : ∀ sig, parseMethodDescriptor y.desc = some sig → argsL.length = sig.parameters.length)
    (hstack : g.stack = argsL.reverse ++ rest) (hW : 2 * g.monitorRoom + (rest.map fun v => v.category).sum ≤ W9) (hdg : decode c.code g.pc = .ok (.invokestatic index, 3))
    (hpre : ∀ vm₁, s.WarmedH vm₁ → Pre ⟨T.setVm vm₁, locs, cells, slots⟩ argsL.toArray) :
    ∃ (v : Option Value) (vm₁ : Vm) (B : Pt), s.WarmedH vm₁ ∧ Stand p l e R s m args below meth c B.U B.locs B.cells B.slots ∧ Post ⟨T.setVm vm₁, locs, cells, slots⟩ argsL.toArray v B ∧
      ∀ target, Steps p.tables e below (B.U.setTop { g with pc := g.pc + 3, stack := v.toList ++ rest }) target → Steps p.tables e below (T.setTop g) target := by
  obtain ⟨mk, methM, cM, hnamed, hmethM, -, -, -, -, -, -, hsigM⟩ := Cond.codeWith_spec hcode
  have hstatic : methM.isStatic = true := Cond.static_spec hnamed hmethM hstat
  obtain ⟨kP, hkP, -⟩ := className_of_methodNamed hnamed
  have hinitP : kP.init = .initialized := Cond.initialized_spec (findClass_of_methodNamed hnamed) hkP hinit
  obtain ⟨vm₁, X₁, hstep₁⟩ := X.invokestatic hexec hown hlink hnamed hmethM hstatic hkP hinitP hy (g := g) hg (argsL := argsL) (rest := rest) (hlen _ hsigM) hstack hdg
  obtain ⟨v, B, X', hpost, hsteps⟩ := hK m meth c ⟨T.setVm vm₁, locs, cells, slots⟩ { g with stack := rest } (.invokestatic index) mk argsL.toArray X₁ hg hsize hdg hW (X₁.named hnamed) (hpre vm₁ X₁.warmed)
  exact ⟨v, vm₁, B, X₁.warmed, X', hpost, fun target h => hstep₁ _ fun acts => by rw [doInvoke_state]; exact hsteps.trans h⟩
theorem vx_runSW {y : MethodName} {bytes cc : ByteArray} {maxL nL mc ms n index : Nat} {ret : Option FieldType} {hh : List (Nat × Nat × Nat × Nat)} {ws : List Cond} {rm : Room} {Pc : Array Value → State → Prop} {Qc : Array Value → State → Outcome → State → Prop} {free : Addr → Prop} {Ts : List Cond} {own : String} {As rest : List Value} {g : JFrame}
    (S : CallFix p m c cc nL s args Ts own) (hM : Met l y ws rm Pc Qc mc ms free) (cw : vx_CSW R s args own index y bytes maxL ret hh ws rm mc ms n) (hp : PreS s H Pc As)
    (hg : g.method = m) (hn : As.length = n) (hsize : g.locals.size = nL) (hstack : g.stack = As.reverse ++ rest) (hW : 2 * g.monitorRoom + (rest.map fun v => v.category).sum ≤ 8) (hdg : decode cc g.pc = .ok (.invokestatic index, 3)) (hf : cells + mc ≤ R.cells ∧ slots + ms ≤ R.slots) :
    va_Run p l e R s m args below meth c H locs cells slots mc ms g rest (Qc As.toArray) (free) := by
  obtain ⟨⟨hrc, hrs, hfr, hlo, hws, hcw⟩, hcode, hini, hy, hlen, hl, hstt⟩ := cw
  have hK : Back l R p e below s args y 3 8 (PreOf R mc ms Pc) (PostOf Qc mc ms free) := va_backW (hh := hh) (bytes := bytes) (maxL := maxL) (ret := ret) hM hp.1 hrc hrs hfr hlo hws hcw (fun a' U hW => word_at hW (Or.inl (by first | rfl | simp [Cond.onTables, Cond.keeps, Cond.steady])) hini)
  obtain ⟨hx, hb, hml, ho, -⟩ := S
  intro T hT X
  obtain ⟨v, vm₁, ⟨U', l2, c2, s2⟩, hW₁, X', ⟨g', mk, t, L, e1, e2, hq, h1, hL, h2, h3⟩, st⟩ := vx_callSW X hx (hh := hh) (bytes := bytes) (maxL := maxL) (ret := ret) ho hl hstt hini hcode hy hK hg (hsize.trans hml.symm) (argsL := As) (rest := rest) (fun sig h => hn.trans (hlen sig h)) hstack hW (by rw [hb]; exact hdg)
    (fun vm₁ hW₁ => ⟨hf.1, hf.2, hp.2 (T.setVm vm₁) hT hW₁⟩)
  dsimp only [Pt.U, Pt.locs, Pt.cells, Pt.slots] at X' e1 e2 h1 h2 h3 st
  subst h1; subst h2; subst h3
  exact ⟨v, (T.setVm vm₁).calling g' mk As.toArray, t, U', L, hT, X', hL, e1, e2, hq, st⟩
/-- not caught here, past rows that name other classes: it goes on to the caller -/
theorem vx_outP {p : Program} {l : Launch} {e : Env} {R : Room} {s : State} {m : MethodId} {args : Array Value} {below : List Frame} {meth : Method} {c : Code} {H : Heap} {locs : List Loc} {cells slots : Nat} {free : Addr → Prop} {ls : Array Slot} {rest : List Value} {Qc : Array Value → State → Outcome → State → Prop} {XC : String → State → State → Prop}
    {pc : Nat} {own E : String} {ce : Cell} {q : Addr} {mc ms : Nat} (hown : s.vm.findClass own = some m.cls) (hlocks : meth.locks = false)
    (hpass : ∀ z ∈ c.exceptionTable.toList, covers z pc = false ∨ (z.catchType ≠ 0 ∧ ∃ nm : String, (Cond.classLink own z.catchType nm).before args s = true ∧ va_Nc E nm s)) (hcell : H[q]? = some ce) (hv : ce.vm = .none) (hcl : s.vm.findClass E = some ce.cls)
    (hx : ∀ t : State, t.heap = H → s.vm.Alike t.vm → XC E s t) (hf : ∀ z ∈ locs, free z.base) (hc : cells ≤ mc) (hs : slots ≤ ms) :
    vx_W p l e R s m args below meth c H locs cells slots (vx_MQ below Qc XC args s mc ms free) (F0 m pc ls rest) q := by
  intro T hT X
  have hpl : e.platform.magicAccessors = ({} : Platform).magicAccessors := by rw [X.admits.platform]
  obtain ⟨vm', hW', X', st⟩ := X.outThrough hlocks q (g := F0 m pc ls rest) rfl rfl rfl (cell := ce) (by rw [hT]; exact hcell) (by rw [hv]; rfl)
    (by obtain ⟨k9, h9, -⟩ := Vm.findClass_spec hcl; exact ⟨k9, h9⟩) (fun z hz => by
      rcases hpass z hz with h | ⟨hz0, nm, hl1, hn1⟩
      · exact Or.inl h
      · obtain ⟨c6, hc6, hcl6⟩ := Cond.classLink_spec hown hl1 e.platform hpl
        obtain ⟨a8, b8, h1, h2, h3⟩ := hn1
        cases Option.some.inj (h1.symm.trans hcl)
        cases Option.some.inj (h2.symm.trans hc6)
        exact Or.inr ⟨hz0, _, hcl6, h3⟩)
  obtain ⟨g₀, hfr⟩ := X'.frames_eq
  have hcell9 : ((T.setVm vm').setFrames (.throwing q :: below)).heap[q]? = some ce := by
    show T.heap[q]? = some ce
    rw [hT]; exact hcell
  have hend : Ended ((T.setVm vm').setFrames (.throwing q :: below)) below (.threw q) := State.frames_setFrames _ (State.cur_lt_of_frames hfr)
  refine ⟨(T.setVm vm').setFrames (.throwing q :: below), ?_, .threw q, X'.here.running, hend, Or.inr ⟨q, rfl, E, ce, locs, hx _ hT (X'.ends _).1.alike, hcell9, hv, hcl, (X'.ends _).1, (X'.ends _).2.mono hc hs, hf⟩⟩
  rw [X.pushThrowing_eq]
  exact st
/-- a thing of a world lies in the heap -/
theorem vx_lt {D : va_G} {cl : List vw_C} {ws : va_W} {H1 : Heap} (h : va_P D cl ws H1) {k : Nat} {q : Nat × va_E} (hk : ws[k]? = some q) : q.1 < H1.size := (h k q hk).lt
end VXS
/-! ===== END ===== -/
/-! ===== BEGIN methods with a table of their own: called by a name, returning or throwing ===== -/
section VXH
/-! vx_backW, vx_callVX, vx_callSX, vx_callVW, vx_runVW, vx_runVX, vx_runSX, vx_ofWH follow the same proofs as their sisters above (Free/Laws.lean, Shelf42/LK1.lean); vx_outP calls Shelf42/NT130.lean (outThrough). -/
section
variable {l : Launch} {R : Room} {p : Program} {e : Env} {below : List Frame} {s : State} {sargs : Array Value} {y : MethodName} {len W9 : Nat}
theorem vx_backW {ws : List Cond} {rm : Room} {Pc : Array Value → State → Prop} {Qc : Array Value → State → Outcome → State → Prop} {XC : String → State → State → Prop} {mc ms : Nat} {free : Addr → Prop} {bytes : ByteArray} {maxL : Nat} {ret : Option FieldType} {hh : List (Nat × Nat × Nat × Nat)}
    (hM : vx_Met l y ws rm Pc Qc XC mc ms free) (hblind : FrameBlind Pc) (hrc : rm.cells = mc) (hrs : rm.slots = ms)
    (hframes : rm.frames + 1 ≤ R.frames) (hlocals : W9 + (maxL + 11) + rm.locals ≤ R.locals)
    (hws : ∀ w ∈ ws, ∀ a' U, s.WarmedH U.vm → w.before a' U = true) (hcode : Cond.codeWith y bytes maxL ret hh ∈ ws) (hinit : ∀ a' U, s.WarmedH U.vm → (Cond.initialized y.cls).before a' U = true) :
    vx_Back l R p e below s sargs y len W9 (PreOf R mc ms Pc) (PostOf Qc mc ms free) (vx_Post XC mc ms free) := by
  intro m meth c A g ig mk a X hg hsize hdg hW hn hp
  have h1 : (headSpec ws rm).pre.before a A.U = true := atoms_intro fun w hw => hws w hw _ _ X.warmed
  have h2 : (Cond.codeWith y bytes maxL ret hh).before a A.U = true := hws _ hcode _ _ X.warmed
  have h3 : (Cond.initialized y.cls).before a A.U = true := hinit _ _ X.warmed
  have h4 : A.cells + (headSpec ws rm).room.cells ≤ R.cells := by rw [show (headSpec ws rm).room.cells = mc from hrc]; exact hp.1
  have h5 : A.slots + (headSpec ws rm).room.slots ≤ R.slots := by rw [show (headSpec ws rm).room.slots = ms from hrs]; exact hp.2.1
  have hPc : Pc a (A.U.calling g mk a) := hblind _ _ _ _ hp.2.2
  obtain ⟨U, Ls, c0, s0⟩ := A
  dsimp only [Pt.U, Pt.locs, Pt.cells, Pt.slots] at h1 h2 h3 h4 h5 X hn hPc ⊢
  obtain ⟨m9, methY, cY, hn9, hmY, hcY, -, hlY, -⟩ := Cond.codeWith_spec h2
  cases Option.some.inj (hn9.symm.trans hn)
  obtain ⟨kY, hkY, -⟩ := className_of_methodNamed hn
  have hinitY : kY.init = .initialized := Cond.initialized_spec (findClass_of_methodNamed hn) hkY h3
  have h : At U g.method c below := by rw [hg]; exact X.here
  have hlocals9 : W9 + (maxL + 11) + (headSpec ws rm).room.locals ≤ R.locals := hlocals
  have happ : (headSpec ws rm).appliesLoose y e.platform (U.calling g mk a) = true :=
    Spec.appliesLoose_calling (g := g) h hdg hn hkY hinitY
      (X.room_calling (g := g) (R' := (headSpec ws rm).room) hsize hmY hcY hframes (by rw [hlY]; omega) h4 h5) h1
  obtain ⟨mid, hmid⟩ := h.above
  have hfr : (U.setTop g).frames = (.java g :: mid) ++ below := by rw [State.frames_setTop' g h.top, hmid]; rfl
  obtain ⟨o, s₂, hsteps, -, hend, hq⟩ := Steps.callFree hM p X.admits X.cas X.clock (acts := []) hfr happ hPc trivial
  have hq' : vx_Q Qc XC mc ms free a (U.calling g mk a) o s₂ := hq
  rw [State.frames_setTop' g h.top] at hend
  obtain ⟨g₀, hg0⟩ := Option.isSome_iff_exists.mp h.top
  obtain ⟨r, hr⟩ := State.topJava?_eq_some.mp hg0
  have hr' : (({ U with heap := s₂.heap, slotsUsed := s₂.slotsUsed } : State).setVm s₂.vm).frames = .java g₀ :: r := hr
  rcases hq' with ⟨hqc, L, hfe, hL⟩ | ⟨q, rfl, E, ce, L, hx, hce, hcv, hcl, hW₂, hsm, hL⟩
  · obtain ⟨⟨v, rfl⟩, hW₂, e2, q2, q3, q4, q5, q6⟩ := id hfe
    have e3 : s₂ = ({ (U.calling g mk a).setFrames s₂.frames with heap := s₂.heap, slotsUsed := s₂.slotsUsed } : State).setVm s₂.vm := by
      have : s₂ = ({ s₂ with vm := (U.calling g mk a).vm } : State).setVm s₂.vm := rfl
      rw [e2] at this
      exact this
    obtain ⟨c₂, i₂, len₂, hc₂, hd₂, hf₂⟩ := hend
    have hW' : U.WarmedH s₂.vm := hW₂
    have hcc : c₂ = c := by
      have h1 : s₂.code? g.method = U.code? g.method := by
        rw [State.code?_eq, State.code?_eq, hW'.alike.method?]
      exact Option.some.inj (hc₂.symm.trans (h1.trans h.code))
    subst hcc
    have hlen : len₂ = len := by rw [hdg] at hd₂; cases hd₂; rfl
    subst hlen
    have hs₂ : s₂ = (({ U with heap := s₂.heap, slotsUsed := s₂.slotsUsed } : State).setVm s₂.vm).setTop { g with pc := g.pc + len₂, stack := v.toList ++ g.stack } := by
      refine e3.trans ?_
      rw [hf₂, State.calling_eq h.top, State.setFrames_setFrames, State.setTop_of_frames _ hr', hr]
      rfl
    have hsame : U.sameButNew ({ U with heap := s₂.heap, slotsUsed := s₂.slotsUsed } : State) L mc ms := by
      refine ⟨?_, q2, q3, q4, q5, q6⟩
      obtain ⟨t, ht, -⟩ := State.frames_cons hr
      show ({ U with heap := s₂.heap, slotsUsed := s₂.slotsUsed } : State) = { U.setFrames U.frames with heap := s₂.heap, slotsUsed := s₂.slotsUsed }
      rw [State.setFrames_self ht]
    subst hg
    refine Or.inl ⟨v, ⟨(({ U with heap := s₂.heap, slotsUsed := s₂.slotsUsed } : State).setVm s₂.vm), Ls ++ L, c0 + mc, s0 + ms⟩,
      ⟨X.admits, X.cas, X.clock, X.frames, X.room, X.hears, X.method, X.code, (X.here.setHeapUsed s₂.heap s₂.slotsUsed).setVm hW'.alike, X.tail, State.WarmedH.trans X.warmed hW', X.limits, X.bytes, X.same.trans (hsame.setVm s.vm)⟩,
      ⟨g, mk, s₂, L, rfl, rfl, hqc, rfl, hL, rfl, rfl⟩, ?_⟩
    show Steps p.tables e below _ ((({ U with heap := s₂.heap, slotsUsed := s₂.slotsUsed } : State).setVm s₂.vm).setTop { g with pc := g.pc + len₂, stack := v.toList ++ g.stack })
    rw [← hs₂]
    exact hsteps
  · obtain ⟨e2, q2, q3, q4, q5, q6⟩ := id hsm
    have e3 : s₂ = ({ (U.calling g mk a).setFrames s₂.frames with heap := s₂.heap, slotsUsed := s₂.slotsUsed } : State).setVm s₂.vm := by
      have : s₂ = ({ s₂ with vm := (U.calling g mk a).vm } : State).setVm s₂.vm := rfl
      rw [e2] at this
      exact this
    have hf₂ : s₂.frames = .throwing q :: .java g :: U.frames.tail := hend
    have hW' : U.WarmedH s₂.vm := hW₂
    have hs₂ : s₂ = ((({ U with heap := s₂.heap, slotsUsed := s₂.slotsUsed } : State).setVm s₂.vm).setTop g).pushFrame (.throwing q) := by
      refine e3.trans ?_
      rw [hf₂, State.calling_eq h.top, State.setFrames_setFrames, State.pushFrame, State.frames_setTop _ hr', State.setTop_of_frames _ hr', State.setFrames_setFrames, hr]
      rfl
    have hsame : U.sameButNew ({ U with heap := s₂.heap, slotsUsed := s₂.slotsUsed } : State) L mc ms := by
      refine ⟨?_, q2, q3, q4, q5, q6⟩
      obtain ⟨t, ht, -⟩ := State.frames_cons hr
      show ({ U with heap := s₂.heap, slotsUsed := s₂.slotsUsed } : State) = { U.setFrames U.frames with heap := s₂.heap, slotsUsed := s₂.slotsUsed }
      rw [State.setFrames_self ht]
    subst hg
    refine Or.inr ⟨q, ⟨(({ U with heap := s₂.heap, slotsUsed := s₂.slotsUsed } : State).setVm s₂.vm), Ls ++ L, c0 + mc, s0 + ms⟩,
      ⟨X.admits, X.cas, X.clock, X.frames, X.room, X.hears, X.method, X.code, (X.here.setHeapUsed s₂.heap s₂.slotsUsed).setVm hW'.alike, X.tail, State.WarmedH.trans X.warmed hW', X.limits, X.bytes, X.same.trans (hsame.setVm s.vm)⟩,
      ⟨g, mk, s₂, L, E, ce, rfl, rfl, hx, hce, hcv, hcl, rfl, hL, rfl, rfl⟩, ?_⟩
    show Steps p.tables e below _ (((({ U with heap := s₂.heap, slotsUsed := s₂.slotsUsed } : State).setVm s₂.vm).setTop g).pushFrame (.throwing q))
    rw [← hs₂]
    exact hsteps
end
variable {p : Program} {l : Launch} {e : Env} {R : Room} {s : State} {m : MethodId} {args : Array Value} {below : List Frame} {meth : Method} {c : Code} {T : State} {H : Heap} {locs : List Loc} {cells slots : Nat}
theorem vx_callVX (X : Stand p l e R s m args below meth c T locs cells slots) (hexec : p.tables.exec = Jvm.exec) {own C : String} {index : Nat} {y : MethodName} {bytes : ByteArray} {maxL : Nat} {ret : Option FieldType} {hh : List (Nat × Nat × Nat × Nat)}
    (hown : s.vm.findClass own = some m.cls) (hlink : (Cond.methodLink own index y).before args s = true) (hinst : (Cond.instanceMethod y).before args s = true) (hsel : (Cond.selects C y y).before args s = true)
    (hcode : (Cond.codeWith y bytes maxL ret hh).before args s = true) (hy : y.cls ≠ "java/lang/invoke/MethodHandle" ∧ y.cls ≠ "java/lang/invoke/VarHandle")
    {W9 : Nat} {Pre : Pt → Array Value → Prop} {Post : Pt → Array Value → Option Value → Pt → Prop} {PostX : Pt → Array Value → Addr → Pt → Prop} (hK : vx_Back l R p e below s args y 3 W9 Pre Post PostX)
    {b : Addr} {cellB : Cell} (hcell : T.heap[b]? = some cellB) (hobj : cellB.vm.isStatics = false) (hcls : s.vm.findClass C = some cellB.cls)
    {g : JFrame} (hg : g.method = m) (hsize : g.locals.size = c.maxLocals) {argsL rest : List Value} (hlen : ∀ sig, parseMethodDescriptor y.desc = some sig → argsL.length = sig.parameters.length)
    (hstack : g.stack = argsL.reverse ++ .ref b :: rest) (hW : 2 * g.monitorRoom + (rest.map fun v => v.category).sum ≤ W9) (hdg : decode c.code g.pc = .ok (.invokevirtual index, 3))
    (hpre : ∀ vm₁, s.WarmedH vm₁ → Pre ⟨T.setVm vm₁, locs, cells, slots⟩ (Value.ref b :: argsL).toArray) :
    (∃ (v : Option Value) (vm₁ : Vm) (B : Pt), s.WarmedH vm₁ ∧ Stand p l e R s m args below meth c B.U B.locs B.cells B.slots ∧ Post ⟨T.setVm vm₁, locs, cells, slots⟩ (Value.ref b :: argsL).toArray v B ∧
      ∀ target, Steps p.tables e below (B.U.setTop { g with pc := g.pc + 3, stack := v.toList ++ rest }) target → Steps p.tables e below (T.setTop g) target) ∨
    (∃ (q : Addr) (vm₁ : Vm) (B : Pt), s.WarmedH vm₁ ∧ Stand p l e R s m args below meth c B.U B.locs B.cells B.slots ∧ PostX ⟨T.setVm vm₁, locs, cells, slots⟩ (Value.ref b :: argsL).toArray q B ∧
      Steps p.tables e below (T.setTop g) ((B.U.setTop { g with stack := rest }).pushFrame (.throwing q))) := by
  obtain ⟨mk, methM, hnamed, hmethM, hstM, habM⟩ := Cond.instanceMethod_spec hinst
  obtain ⟨m8, methM', cM, hn8, hmethM', -, -, -, -, -, -, hsigM⟩ := Cond.codeWith_spec hcode
  cases Option.some.inj (hn8.symm.trans hnamed)
  cases hmethM.symm.trans hmethM'
  obtain ⟨c2, r2, m2, q1, q2, q3, q4, kP, hkP, hkPi⟩ := Cond.selects_spec hsel
  cases hcls.symm.trans q1
  cases (State.methodFound?_of_named hnamed hy).symm.trans q2
  cases hnamed.symm.trans q3
  have hselP : selectMethod e.platform s.vm cellB.cls mk = .method mk := by rw [Launch.admits_selectMethod X.admits]; exact q4
  obtain ⟨vm₁, X₁, hstep₁⟩ := X.invokevirtual hexec hown hlink hnamed hmethM hstM hkP hkPi hy (a := b) (cell := cellB) hcell
    (fun z h => by rw [h] at hobj; cases hobj) hselP hmethM habM hkP hkPi (g := g) hg (argsL := argsL) (rest := rest) (hlen _ hsigM) hstack hdg
  rcases hK m meth c ⟨T.setVm vm₁, locs, cells, slots⟩ { g with stack := rest } (.invokevirtual index) mk (Value.ref b :: argsL).toArray X₁ hg hsize hdg hW (X₁.named hnamed) (hpre vm₁ X₁.warmed) with ⟨v, B, X', hpost, hsteps⟩ | ⟨q, B, X', hpost, hsteps⟩
  · exact Or.inl ⟨v, vm₁, B, X₁.warmed, X', hpost, fun target h => hstep₁ _ fun acts => by rw [doInvoke_state]; exact hsteps.trans h⟩
  · exact Or.inr ⟨q, vm₁, B, X₁.warmed, X', hpost, hstep₁ _ fun acts => by rw [doInvoke_state]; exact hsteps⟩
theorem vx_callSX (X : Stand p l e R s m args below meth c T locs cells slots) (hexec : p.tables.exec = Jvm.exec) {own : String} {index : Nat} {y : MethodName} {bytes : ByteArray} {maxL : Nat} {ret : Option FieldType} {hh : List (Nat × Nat × Nat × Nat)}
    (hown : s.vm.findClass own = some m.cls) (hlink : (Cond.methodLink own index y).before args s = true) (hstat : (Cond.static y).before args s = true) (hinit : (Cond.initialized y.cls).before args s = true)
    (hcode : (Cond.codeWith y bytes maxL ret hh).before args s = true) (hy : y.cls ≠ "java/lang/invoke/MethodHandle" ∧ y.cls ≠ "java/lang/invoke/VarHandle")
    {W9 : Nat} {Pre : Pt → Array Value → Prop} {Post : Pt → Array Value → Option Value → Pt → Prop} {PostX : Pt → Array Value → Addr → Pt → Prop} (hK : vx_Back l R p e below s args y 3 W9 Pre Post PostX)
    {g : JFrame} (hg : g.method = m) (hsize : g.locals.size = c.maxLocals) {argsL rest : List Value} (hlen : ∀ sig, parseMethodDescriptor y.desc = some sig → argsL.length = sig.parameters.length)
    (hstack : g.stack = argsL.reverse ++ rest) (hW : 2 * g.monitorRoom + (rest.map fun v => v.category).sum ≤ W9) (hdg : decode c.code g.pc = .ok (.invokestatic index, 3))
    (hpre : ∀ vm₁, s.WarmedH vm₁ → Pre ⟨T.setVm vm₁, locs, cells, slots⟩ argsL.toArray) :
    (∃ (v : Option Value) (vm₁ : Vm) (B : Pt), s.WarmedH vm₁ ∧ Stand p l e R s m args below meth c B.U B.locs B.cells B.slots ∧ Post ⟨T.setVm vm₁, locs, cells, slots⟩ argsL.toArray v B ∧
      ∀ target, Steps p.tables e below (B.U.setTop { g with pc := g.pc + 3, stack := v.toList ++ rest }) target → Steps p.tables e below (T.setTop g) target) ∨
    (∃ (q : Addr) (vm₁ : Vm) (B : Pt), s.WarmedH vm₁ ∧ Stand p l e R s m args below meth c B.U B.locs B.cells B.slots ∧ PostX ⟨T.setVm vm₁, locs, cells, slots⟩ argsL.toArray q B ∧
      Steps p.tables e below (T.setTop g) ((B.U.setTop { g with stack := rest }).pushFrame (.throwing q))) := by
  obtain ⟨mk, methM, cM, hnamed, hmethM, -, -, -, -, -, -, hsigM⟩ := Cond.codeWith_spec hcode
  have hstatic : methM.isStatic = true := Cond.static_spec hnamed hmethM hstat
  obtain ⟨kP, hkP, -⟩ := className_of_methodNamed hnamed
  have hinitP : kP.init = .initialized := Cond.initialized_spec (findClass_of_methodNamed hnamed) hkP hinit
  obtain ⟨vm₁, X₁, hstep₁⟩ := X.invokestatic hexec hown hlink hnamed hmethM hstatic hkP hinitP hy (g := g) hg (argsL := argsL) (rest := rest) (hlen _ hsigM) hstack hdg
  rcases hK m meth c ⟨T.setVm vm₁, locs, cells, slots⟩ { g with stack := rest } (.invokestatic index) mk argsL.toArray X₁ hg hsize hdg hW (X₁.named hnamed) (hpre vm₁ X₁.warmed) with ⟨v, B, X', hpost, hsteps⟩ | ⟨q, B, X', hpost, hsteps⟩
  · exact Or.inl ⟨v, vm₁, B, X₁.warmed, X', hpost, fun target h => hstep₁ _ fun acts => by rw [doInvoke_state]; exact hsteps.trans h⟩
  · exact Or.inr ⟨q, vm₁, B, X₁.warmed, X', hpost, hstep₁ _ fun acts => by rw [doInvoke_state]; exact hsteps⟩
theorem vx_callVW (X : Stand p l e R s m args below meth c T locs cells slots) (hexec : p.tables.exec = Jvm.exec) {own C : String} {index : Nat} {y : MethodName} {bytes : ByteArray} {maxL : Nat} {ret : Option FieldType} {hh : List (Nat × Nat × Nat × Nat)}
    (hown : s.vm.findClass own = some m.cls) (hlink : (Cond.methodLink own index y).before args s = true) (hinst : (Cond.instanceMethod y).before args s = true) (hsel : (Cond.selects C y y).before args s = true)
    (hcode : (Cond.codeWith y bytes maxL ret hh).before args s = true) (hy : y.cls ≠ "java/lang/invoke/MethodHandle" ∧ y.cls ≠ "java/lang/invoke/VarHandle")
    {W9 : Nat} {Pre : Pt → Array Value → Prop} {Post : Pt → Array Value → Option Value → Pt → Prop} (hK : Back l R p e below s args y 3 W9 Pre Post)
    {b : Addr} {cellB : Cell} (hcell : T.heap[b]? = some cellB) (hobj : cellB.vm.isStatics = false) (hcls : s.vm.findClass C = some cellB.cls)
    {g : JFrame} (hg : g.method = m) (hsize : g.locals.size = c.maxLocals) {argsL rest : List Value} (hlen : ∀ sig, parseMethodDescriptor y.desc = some sig → argsL.length = sig.parameters.length)
    (hstack : g.stack = argsL.reverse ++ .ref b :: rest) (hW : 2 * g.monitorRoom + (rest.map fun v => v.category).sum ≤ W9) (hdg : decode c.code g.pc = .ok (.invokevirtual index, 3))
    (hpre : ∀ vm₁, s.WarmedH vm₁ → Pre ⟨T.setVm vm₁, locs, cells, slots⟩ (Value.ref b :: argsL).toArray) :
    ∃ (v : Option Value) (vm₁ : Vm) (B : Pt), s.WarmedH vm₁ ∧ Stand p l e R s m args below meth c B.U B.locs B.cells B.slots ∧ Post ⟨T.setVm vm₁, locs, cells, slots⟩ (Value.ref b :: argsL).toArray v B ∧
      ∀ target, Steps p.tables e below (B.U.setTop { g with pc := g.pc + 3, stack := v.toList ++ rest }) target → Steps p.tables e below (T.setTop g) target := by
  obtain ⟨mk, methM, hnamed, hmethM, hstM, habM⟩ := Cond.instanceMethod_spec hinst
  obtain ⟨m8, methM', cM, hn8, hmethM', -, -, -, -, -, -, hsigM⟩ := Cond.codeWith_spec hcode
  cases Option.some.inj (hn8.symm.trans hnamed)
  cases hmethM.symm.trans hmethM'
  obtain ⟨c2, r2, m2, q1, q2, q3, q4, kP, hkP, hkPi⟩ := Cond.selects_spec hsel
  cases hcls.symm.trans q1
  cases (State.methodFound?_of_named hnamed hy).symm.trans q2
  cases hnamed.symm.trans q3
  have hselP : selectMethod e.platform s.vm cellB.cls mk = .method mk := by rw [Launch.admits_selectMethod X.admits]; exact q4
  obtain ⟨vm₁, X₁, hstep₁⟩ := X.invokevirtual hexec hown hlink hnamed hmethM hstM hkP hkPi hy (a := b) (cell := cellB) hcell
    (fun z h => by rw [h] at hobj; cases hobj) hselP hmethM habM hkP hkPi (g := g) hg (argsL := argsL) (rest := rest) (hlen _ hsigM) hstack hdg
  obtain ⟨v, B, X', hpost, hsteps⟩ := hK m meth c ⟨T.setVm vm₁, locs, cells, slots⟩ { g with stack := rest } (.invokevirtual index) mk (Value.ref b :: argsL).toArray X₁ hg hsize hdg hW (X₁.named hnamed) (hpre vm₁ X₁.warmed)
  exact ⟨v, vm₁, B, X₁.warmed, X', hpost, fun target h => hstep₁ _ fun acts => by rw [doInvoke_state]; exact hsteps.trans h⟩
abbrev vx_CVW (R : Room) (s : State) (args : Array Value) (own C : String) (index : Nat) (y : MethodName) (bytes : ByteArray) (maxL : Nat) (ret : Option FieldType) (hh : List (Nat × Nat × Nat × Nat)) (ws : List Cond) (rm : Room) (mc ms n : Nat) : Prop :=
  (rm.cells = mc ∧ rm.slots = ms ∧ rm.frames + 1 ≤ R.frames ∧ 8 + (maxL + 11) + rm.locals ≤ R.locals ∧ (∀ w ∈ ws, ∀ (a' : Array Value) (U : State), s.WarmedH U.vm → w.before a' U = true) ∧ Cond.codeWith y bytes maxL ret hh ∈ ws) ∧
  (Cond.codeWith y bytes maxL ret hh).before args s = true ∧ (Cond.initialized y.cls).before args s = true ∧ (y.cls ≠ "java/lang/invoke/MethodHandle" ∧ y.cls ≠ "java/lang/invoke/VarHandle") ∧
  (∀ sig, parseMethodDescriptor y.desc = some sig → n = sig.parameters.length) ∧ (Cond.methodLink own index y).before args s = true ∧ (Cond.instanceMethod y).before args s = true ∧ (Cond.selects C y y).before args s = true
theorem vx_cwVW {own C : String} {index maxL mc ms : Nat} {y : MethodName} {bytes : ByteArray} {ret : Option FieldType} {hh : List (Nat × Nat × Nat × Nat)} {Ts ws ws' : List Cond} {rm : Room} (n : Nat) (ht : ∀ w ∈ Ts, w.before args s = true) (hT : GoodIn Ts (wsV own index C y ws)) (hw : ws = Cond.codeWith y bytes maxL ret hh :: ws') (hrc : rm.cells = mc) (hrs : rm.slots = ms)
    (hd : y.cls = C ∧ y.cls ≠ "java/lang/invoke/MethodHandle" ∧ y.cls ≠ "java/lang/invoke/VarHandle" ∧ (parseMethodDescriptor y.desc).map (fun d => d.parameters.length) = some n) (hR : rm.frames + 1 ≤ R.frames ∧ 8 + (maxL + 11) + rm.locals ≤ R.locals) :
    vx_CVW R s args own C index y bytes maxL ret hh ws rm mc ms n := by
  obtain ⟨hC, hd⟩ := hd
  subst hC
  have ok : ∀ w ∈ wsV own index y.cls y ws, w.before args s = true := fun w h => ht w (hT w h).1
  have hG : GoodIn Ts ws := fun w h => hT w (by unfold wsV; exact List.mem_append_right _ h)
  have hc : Cond.codeWith y bytes maxL ret hh ∈ ws := by rw [hw]; exact List.mem_cons_self
  refine ⟨⟨hrc, hrs, hR.1, hR.2, pay_in ht hG, hc⟩, ht _ (hG _ hc).1, ok _ (by simp [wsV]), ⟨hd.1, hd.2.1⟩, fun sig h => ?_, ok _ (by simp [wsV]), ok _ (by simp [wsV]), ok _ (by simp [wsV])⟩
  have h2 := hd.2.2
  rw [h] at h2
  exact (Option.some.inj h2).symm
theorem vx_runVW {y : MethodName} {bytes cc : ByteArray} {maxL nL mc ms n index : Nat} {ret : Option FieldType} {hh : List (Nat × Nat × Nat × Nat)} {ws : List Cond} {rm : Room} {Pc : Array Value → State → Prop} {Qc : Array Value → State → Outcome → State → Prop} {free : Addr → Prop} {Ts : List Cond} {own C : String} {b : Addr} {As rest : List Value} {g : JFrame}
    (S : CallFix p m c cc nL s args Ts own) (hM : Met l y ws rm Pc Qc mc ms free) (cw : vx_CVW R s args own C index y bytes maxL ret hh ws rm mc ms n) (hp : PreV s H C b Pc As)
    (hg : g.method = m) (hn : As.length = n) (hsize : g.locals.size = nL) (hstack : g.stack = As.reverse ++ .ref b :: rest) (hW : 2 * g.monitorRoom + (rest.map fun v => v.category).sum ≤ 8) (hdg : decode cc g.pc = .ok (.invokevirtual index, 3)) (hf : cells + mc ≤ R.cells ∧ slots + ms ≤ R.slots) :
    va_Run p l e R s m args below meth c H locs cells slots mc ms g rest (Qc (Value.ref b :: As).toArray) free := by
  obtain ⟨⟨hrc, hrs, hfr, hlo, hws, hcw⟩, hcode, hini, hy, hlen, hl, hin, hse⟩ := cw
  have hK : Back l R p e below s args y 3 8 (PreOf R mc ms Pc) (PostOf Qc mc ms free) := va_backW (hh := hh) (bytes := bytes) (maxL := maxL) (ret := ret) hM hp.1 hrc hrs hfr hlo hws hcw (fun a' U hW => word_at hW (Or.inl (by first | rfl | simp [Cond.onTables, Cond.keeps, Cond.steady])) hini)
  obtain ⟨hx, hb, hml, ho, -⟩ := S
  obtain ⟨-, ⟨cellB, hcB, hoB, hclB⟩, hPc⟩ := hp
  intro T hT X
  obtain ⟨v, vm₁, ⟨U', l2, c2, s2⟩, hW₁, X', ⟨g', mk, t, L, e1, e2, hq, h1, hL, h2, h3⟩, st⟩ := vx_callVW X hx (C := C) (hh := hh) (bytes := bytes) (maxL := maxL) (ret := ret) ho hl hin hse hcode hy hK (by rw [hT]; exact hcB) hoB hclB hg (hsize.trans hml.symm) (argsL := As) (rest := rest) (fun sig h => hn.trans (hlen sig h)) hstack hW (by rw [hb]; exact hdg)
    (fun vm₁ hW₁ => ⟨hf.1, hf.2, hPc (T.setVm vm₁) hT hW₁⟩)
  dsimp only [Pt.U, Pt.locs, Pt.cells, Pt.slots] at X' e1 e2 h1 h2 h3 st
  subst h1; subst h2; subst h3
  exact ⟨v, (T.setVm vm₁).calling g' mk (Value.ref b :: As).toArray, t, U', L, hT, X', hL, e1, e2, hq, st⟩
section
variable {y : MethodName} {bytes cc : ByteArray} {maxL nL mc ms n index : Nat} {ret : Option FieldType} {ws : List Cond} {rm : Room} {Pc : Array Value → State → Prop} {Qc : Array Value → State → Outcome → State → Prop} {XC : String → State → State → Prop} {free : Addr → Prop} {Ts : List Cond} {own C : String} {b : Addr} {As rest : List Value} {g : JFrame}
theorem vx_runVX {hh : List (Nat × Nat × Nat × Nat)} (S : CallFix p m c cc nL s args Ts own) (hM : vx_Met l y ws rm Pc Qc XC mc ms free) (cw : vx_CVW R s args own C index y bytes maxL ret hh ws rm mc ms n) (hp : PreV s H C b Pc As)
    (hg : g.method = m) (hn : As.length = n) (hsize : g.locals.size = nL) (hstack : g.stack = As.reverse ++ .ref b :: rest) (hW : 2 * g.monitorRoom + (rest.map fun v => v.category).sum ≤ 8) (hdg : decode cc g.pc = .ok (.invokevirtual index, 3)) (hf : cells + mc ≤ R.cells ∧ slots + ms ≤ R.slots) :
    vx_Run p l e R s m args below meth c H locs cells slots mc ms g rest (Qc (Value.ref b :: As).toArray) XC free := by
  obtain ⟨⟨hrc, hrs, hfr, hlo, hws, hcw⟩, hcode, hini, hy, hlen, hl, hin, hse⟩ := cw
  have hK : vx_Back l R p e below s args y 3 8 (PreOf R mc ms Pc) (PostOf Qc mc ms free) (vx_Post XC mc ms free) := vx_backW (hh := hh) (bytes := bytes) (maxL := maxL) (ret := ret) hM hp.1 hrc hrs hfr hlo hws hcw (fun a' U hW => word_at hW (Or.inl (by first | rfl | simp [Cond.onTables, Cond.keeps, Cond.steady])) hini)
  obtain ⟨hx, hb, hml, ho, -⟩ := S
  obtain ⟨-, ⟨cellB, hcB, hoB, hclB⟩, hPc⟩ := hp
  intro T hT X
  rcases vx_callVX X hx (C := C) (hh := hh) (bytes := bytes) (maxL := maxL) (ret := ret) ho hl hin hse hcode hy hK (by rw [hT]; exact hcB) hoB hclB hg (hsize.trans hml.symm) (argsL := As) (rest := rest) (fun sig h => hn.trans (hlen sig h)) hstack hW (by rw [hb]; exact hdg)
    (fun vm₁ hW₁ => ⟨hf.1, hf.2, hPc (T.setVm vm₁) hT hW₁⟩) with ⟨v, vm₁, ⟨U', l2, c2, s2⟩, hW₁, X', ⟨g', mk, t, L, e1, e2, hq, h1, hL, h2, h3⟩, st⟩ | ⟨q, vm₁, ⟨U', l2, c2, s2⟩, hW₁, X', ⟨g', mk, t, L, E, ce, e1, e2, hq, hce, hcv, hcl, h1, hL, h2, h3⟩, st⟩
  · dsimp only [Pt.U, Pt.locs, Pt.cells, Pt.slots] at X' e1 e2 h1 h2 h3 st
    subst h1; subst h2; subst h3
    exact Or.inl ⟨v, (T.setVm vm₁).calling g' mk (Value.ref b :: As).toArray, t, U', L, hT, X', hL, e1, e2, hq, st⟩
  · dsimp only [Pt.U, Pt.locs, Pt.cells, Pt.slots] at X' e1 e2 h1 h2 h3 st hcl
    subst h1; subst h2; subst h3
    exact Or.inr ⟨q, (T.setVm vm₁).calling g' mk (Value.ref b :: As).toArray, t, U', L, E, ce, hT, X', hL, e1, e2, hq, hce, hcv, vx_cls hW₁ hcl, st⟩
theorem vx_runSX {hh : List (Nat × Nat × Nat × Nat)} (S : CallFix p m c cc nL s args Ts own) (hM : vx_Met l y ws rm Pc Qc XC mc ms free) (cw : vx_CSW R s args own index y bytes maxL ret hh ws rm mc ms n) (hp : PreS s H Pc As)
    (hg : g.method = m) (hn : As.length = n) (hsize : g.locals.size = nL) (hstack : g.stack = As.reverse ++ rest) (hW : 2 * g.monitorRoom + (rest.map fun v => v.category).sum ≤ 8) (hdg : decode cc g.pc = .ok (.invokestatic index, 3)) (hf : cells + mc ≤ R.cells ∧ slots + ms ≤ R.slots) :
    vx_Run p l e R s m args below meth c H locs cells slots mc ms g rest (Qc As.toArray) XC free := by
  obtain ⟨⟨hrc, hrs, hfr, hlo, hws, hcw⟩, hcode, hini, hy, hlen, hl, hstt⟩ := cw
  have hK : vx_Back l R p e below s args y 3 8 (PreOf R mc ms Pc) (PostOf Qc mc ms free) (vx_Post XC mc ms free) := vx_backW (hh := hh) (bytes := bytes) (maxL := maxL) (ret := ret) hM hp.1 hrc hrs hfr hlo hws hcw (fun a' U hW => word_at hW (Or.inl (by first | rfl | simp [Cond.onTables, Cond.keeps, Cond.steady])) hini)
  obtain ⟨hx, hb, hml, ho, -⟩ := S
  intro T hT X
  rcases vx_callSX X hx (hh := hh) (bytes := bytes) (maxL := maxL) (ret := ret) ho hl hstt hini hcode hy hK hg (hsize.trans hml.symm) (argsL := As) (rest := rest) (fun sig h => hn.trans (hlen sig h)) hstack hW (by rw [hb]; exact hdg)
    (fun vm₁ hW₁ => ⟨hf.1, hf.2, hp.2 (T.setVm vm₁) hT hW₁⟩) with ⟨v, vm₁, ⟨U', l2, c2, s2⟩, hW₁, X', ⟨g', mk, t, L, e1, e2, hq, h1, hL, h2, h3⟩, st⟩ | ⟨q, vm₁, ⟨U', l2, c2, s2⟩, hW₁, X', ⟨g', mk, t, L, E, ce, e1, e2, hq, hce, hcv, hcl, h1, hL, h2, h3⟩, st⟩
  · dsimp only [Pt.U, Pt.locs, Pt.cells, Pt.slots] at X' e1 e2 h1 h2 h3 st
    subst h1; subst h2; subst h3
    exact Or.inl ⟨v, (T.setVm vm₁).calling g' mk As.toArray, t, U', L, hT, X', hL, e1, e2, hq, st⟩
  · dsimp only [Pt.U, Pt.locs, Pt.cells, Pt.slots] at X' e1 e2 h1 h2 h3 st hcl
    subst h1; subst h2; subst h3
    exact Or.inr ⟨q, (T.setVm vm₁).calling g' mk As.toArray, t, U', L, E, ce, hT, X', hL, e1, e2, hq, hce, hcv, vx_cls hW₁ hcl, st⟩
end
end VXH
theorem vx_ofWH {l : Launch} {y : MethodName} {ws ws' : List Cond} {rm : Room} {Pc : Array Value → State → Prop} {Qc : Array Value → State → Outcome → State → Prop} {XC : String → State → State → Prop} {mc ms : Nat} {free : Addr → Prop} {cc : ByteArray} {maxL : Nat} {ret : Option FieldType} {hh : List (Nat × Nat × Nat × Nat)}
    (hy : plainName y.cls = true) (hw : ws = Cond.codeWith y cc maxL ret hh :: ws')
    (body : ∀ p e s m args below meth c s₁, BodyLoose p l y (headSpec ws rm) cc maxL ret e s m args below meth c s₁ → c.maxLocals = maxL → Pc args s →
      W p l e (headSpec ws rm).room s m args below meth c s.heap [] 0 0 (vx_MQ below Qc XC args s mc ms free) (entryFrame m args maxL)) : vx_Met l y ws rm Pc Qc XC mc ms free := by
  refine MetFree.of_bodyS (code := cc) (maxLocals := maxL) (ret := ret) hy ?_ ?_
  · intro args s m h hn
    obtain ⟨m9, meth, c, hn9, h1, h2, h3, h4, -, h5, h6, -⟩ := Cond.codeWith_spec (atoms_spec (ws := ws) h _ (by rw [hw]; exact List.mem_cons_self))
    cases hn.symm.trans hn9
    exact ⟨meth, c, h1, h2, h3, h4, h5, h6⟩
  · intro p e s m args below meth c s₁ B hml hP _
    have hh0 : s₁.heap = s.heap := by rw [B.state]; rfl
    obtain ⟨t, a1, o, b1, b2, b3⟩ := body p e s m args below meth c s₁ B hml hP s₁ hh0 (Stand.of_body B)
    exact ⟨t, o, a1, b1, b2, b3⟩
/-! ===== END ===== -/
end
section
-- ===== PART A: goes FIRST, ahead of the names: the tables' words, and 'selects' of the private methods out of them =====
/-- a private method of a class that the tables say can be made, by its rows of tables_1 -/
def lw_okq (q : MethodName × Nat) : Prop := (q.1.cls ≠ "java/lang/invoke/MethodHandle" ∧ q.1.cls ≠ "java/lang/invoke/VarHandle") ∧ Cond.instantiable q.1.cls q.2 ∈ tables_1 ∧ Cond.privateMethod q.1 ∈ tables_1 ∧ Cond.instanceMethod q.1 ∈ tables_1
theorem lw_p0 : lw_okq (⟨"CaseDesk", "mayBeMoved", "(II)Z"⟩, 5) := ⟨⟨by decide +kernel, by decide +kernel⟩, List.mem_of_getElem? (i := 15) (by decide +kernel), List.mem_of_getElem? (i := 189) (by decide +kernel), List.mem_of_getElem? (i := 190) (by decide +kernel)⟩
theorem lw_p1 : lw_okq (⟨"CaseDesk", "parentLets", "(I)Z"⟩, 5) := ⟨⟨by decide +kernel, by decide +kernel⟩, List.mem_of_getElem? (i := 15) (by decide +kernel), List.mem_of_getElem? (i := 193) (by decide +kernel), List.mem_of_getElem? (i := 194) (by decide +kernel)⟩
theorem lw_p2 : lw_okq (⟨"CaseDesk", "stateAndKindFit", "(II)Z"⟩, 5) := ⟨⟨by decide +kernel, by decide +kernel⟩, List.mem_of_getElem? (i := 15) (by decide +kernel), List.mem_of_getElem? (i := 197) (by decide +kernel), List.mem_of_getElem? (i := 198) (by decide +kernel)⟩
theorem lw_p3 : lw_okq (⟨"CaseDesk", "isSettled", "(I)Z"⟩, 5) := ⟨⟨by decide +kernel, by decide +kernel⟩, List.mem_of_getElem? (i := 15) (by decide +kernel), List.mem_of_getElem? (i := 201) (by decide +kernel), List.mem_of_getElem? (i := 202) (by decide +kernel)⟩
theorem lw_p4 : lw_okq (⟨"java/lang/Throwable", "fillInStackTrace", "(I)Ljava/lang/Throwable;"⟩, 6) := ⟨⟨by decide +kernel, by decide +kernel⟩, List.mem_of_getElem? (i := 273) (by decide +kernel), List.mem_of_getElem? (i := 271) (by decide +kernel), List.mem_of_getElem? (i := 272) (by decide +kernel)⟩
theorem lw_p5 : lw_okq (⟨"CaseDesk", "openCommand", "()V"⟩, 5) := ⟨⟨by decide +kernel, by decide +kernel⟩, List.mem_of_getElem? (i := 15) (by decide +kernel), List.mem_of_getElem? (i := 394) (by decide +kernel), List.mem_of_getElem? (i := 395) (by decide +kernel)⟩
theorem lw_p6 : lw_okq (⟨"CaseDesk", "create", "(III)V"⟩, 5) := ⟨⟨by decide +kernel, by decide +kernel⟩, List.mem_of_getElem? (i := 15) (by decide +kernel), List.mem_of_getElem? (i := 405) (by decide +kernel), List.mem_of_getElem? (i := 406) (by decide +kernel)⟩
theorem lw_p7 : lw_okq (⟨"CaseDesk", "make", "(III)V"⟩, 5) := ⟨⟨by decide +kernel, by decide +kernel⟩, List.mem_of_getElem? (i := 15) (by decide +kernel), List.mem_of_getElem? (i := 413) (by decide +kernel), List.mem_of_getElem? (i := 414) (by decide +kernel)⟩
theorem lw_p8 : lw_okq (⟨"CaseDesk", "markSiblings", "(II)V"⟩, 5) := ⟨⟨by decide +kernel, by decide +kernel⟩, List.mem_of_getElem? (i := 15) (by decide +kernel), List.mem_of_getElem? (i := 430) (by decide +kernel), List.mem_of_getElem? (i := 431) (by decide +kernel)⟩
theorem lw_p9 : lw_okq (⟨"CaseDesk", "mark", "(II)V"⟩, 5) := ⟨⟨by decide +kernel, by decide +kernel⟩, List.mem_of_getElem? (i := 15) (by decide +kernel), List.mem_of_getElem? (i := 434) (by decide +kernel), List.mem_of_getElem? (i := 435) (by decide +kernel)⟩
theorem lw_p10 : lw_okq (⟨"CaseDesk", "moveWhatIsIn", "(III)V"⟩, 5) := ⟨⟨by decide +kernel, by decide +kernel⟩, List.mem_of_getElem? (i := 15) (by decide +kernel), List.mem_of_getElem? (i := 438) (by decide +kernel), List.mem_of_getElem? (i := 439) (by decide +kernel)⟩
theorem lw_p11 : lw_okq (⟨"CaseDesk", "createWhatIsIn", "(II)V"⟩, 5) := ⟨⟨by decide +kernel, by decide +kernel⟩, List.mem_of_getElem? (i := 15) (by decide +kernel), List.mem_of_getElem? (i := 442) (by decide +kernel), List.mem_of_getElem? (i := 443) (by decide +kernel)⟩
theorem lw_p12 : lw_okq (⟨"CaseDesk", "exitChildren", "(II)V"⟩, 5) := ⟨⟨by decide +kernel, by decide +kernel⟩, List.mem_of_getElem? (i := 15) (by decide +kernel), List.mem_of_getElem? (i := 446) (by decide +kernel), List.mem_of_getElem? (i := 447) (by decide +kernel)⟩
theorem lw_p13 : lw_okq (⟨"CaseDesk", "moveChildren", "(IIII)V"⟩, 5) := ⟨⟨by decide +kernel, by decide +kernel⟩, List.mem_of_getElem? (i := 15) (by decide +kernel), List.mem_of_getElem? (i := 450) (by decide +kernel), List.mem_of_getElem? (i := 451) (by decide +kernel)⟩
theorem lw_p14 : lw_okq (⟨"CaseDesk", "repeat", "(II)V"⟩, 5) := ⟨⟨by decide +kernel, by decide +kernel⟩, List.mem_of_getElem? (i := 15) (by decide +kernel), List.mem_of_getElem? (i := 454) (by decide +kernel), List.mem_of_getElem? (i := 455) (by decide +kernel)⟩
theorem lw_p15 : lw_okq (⟨"CaseDesk", "workOff", "()I"⟩, 5) := ⟨⟨by decide +kernel, by decide +kernel⟩, List.mem_of_getElem? (i := 15) (by decide +kernel), List.mem_of_getElem? (i := 462) (by decide +kernel), List.mem_of_getElem? (i := 463) (by decide +kernel)⟩
def lw_privs_1 : List (MethodName × Nat) := [(⟨"CaseDesk", "mayBeMoved", "(II)Z"⟩, 5), (⟨"CaseDesk", "parentLets", "(I)Z"⟩, 5), (⟨"CaseDesk", "stateAndKindFit", "(II)Z"⟩, 5), (⟨"CaseDesk", "isSettled", "(I)Z"⟩, 5), (⟨"java/lang/Throwable", "fillInStackTrace", "(I)Ljava/lang/Throwable;"⟩, 6), (⟨"CaseDesk", "openCommand", "()V"⟩, 5), (⟨"CaseDesk", "create", "(III)V"⟩, 5), (⟨"CaseDesk", "make", "(III)V"⟩, 5), (⟨"CaseDesk", "markSiblings", "(II)V"⟩, 5), (⟨"CaseDesk", "mark", "(II)V"⟩, 5), (⟨"CaseDesk", "moveWhatIsIn", "(III)V"⟩, 5), (⟨"CaseDesk", "createWhatIsIn", "(II)V"⟩, 5), (⟨"CaseDesk", "exitChildren", "(II)V"⟩, 5), (⟨"CaseDesk", "moveChildren", "(IIII)V"⟩, 5), (⟨"CaseDesk", "repeat", "(II)V"⟩, 5), (⟨"CaseDesk", "workOff", "()I"⟩, 5)]
theorem lw_r1 : ∀ q ∈ lw_privs_1, lw_okq q := List.forall_mem_cons.mpr ⟨lw_p0, List.forall_mem_cons.mpr ⟨lw_p1, List.forall_mem_cons.mpr ⟨lw_p2, List.forall_mem_cons.mpr ⟨lw_p3, List.forall_mem_cons.mpr ⟨lw_p4, List.forall_mem_cons.mpr ⟨lw_p5, List.forall_mem_cons.mpr ⟨lw_p6, List.forall_mem_cons.mpr ⟨lw_p7, List.forall_mem_cons.mpr ⟨lw_p8, List.forall_mem_cons.mpr ⟨lw_p9, List.forall_mem_cons.mpr ⟨lw_p10, List.forall_mem_cons.mpr ⟨lw_p11, List.forall_mem_cons.mpr ⟨lw_p12, List.forall_mem_cons.mpr ⟨lw_p13, List.forall_mem_cons.mpr ⟨lw_p14, List.forall_mem_cons.mpr ⟨lw_p15, fun _ h => absurd h List.not_mem_nil⟩⟩⟩⟩⟩⟩⟩⟩⟩⟩⟩⟩⟩⟩⟩⟩
theorem lw_p16 : lw_okq (⟨"CaseDesk", "lowestToExit", "()I"⟩, 5) := ⟨⟨by decide +kernel, by decide +kernel⟩, List.mem_of_getElem? (i := 15) (by decide +kernel), List.mem_of_getElem? (i := 466) (by decide +kernel), List.mem_of_getElem? (i := 467) (by decide +kernel)⟩
theorem lw_p17 : lw_okq (⟨"CaseDesk", "hasSatisfied", "(IZ)Z"⟩, 5) := ⟨⟨by decide +kernel, by decide +kernel⟩, List.mem_of_getElem? (i := 15) (by decide +kernel), List.mem_of_getElem? (i := 470) (by decide +kernel), List.mem_of_getElem? (i := 471) (by decide +kernel)⟩
theorem lw_p18 : lw_okq (⟨"CaseDesk$Plan", "ifPartHolds", "(I[I)Z"⟩, 14) := ⟨⟨by decide +kernel, by decide +kernel⟩, List.mem_of_getElem? (i := 23) (by decide +kernel), List.mem_of_getElem? (i := 478) (by decide +kernel), List.mem_of_getElem? (i := 479) (by decide +kernel)⟩
theorem lw_p19 : lw_okq (⟨"CaseDesk", "lowestToEnter", "()I"⟩, 5) := ⟨⟨by decide +kernel, by decide +kernel⟩, List.mem_of_getElem? (i := 15) (by decide +kernel), List.mem_of_getElem? (i := 482) (by decide +kernel), List.mem_of_getElem? (i := 483) (by decide +kernel)⟩
theorem lw_p20 : lw_okq (⟨"CaseDesk", "letIn", "(I)V"⟩, 5) := ⟨⟨by decide +kernel, by decide +kernel⟩, List.mem_of_getElem? (i := 15) (by decide +kernel), List.mem_of_getElem? (i := 486) (by decide +kernel), List.mem_of_getElem? (i := 487) (by decide +kernel)⟩
theorem lw_p21 : lw_okq (⟨"CaseDesk", "lowestToComplete", "()I"⟩, 5) := ⟨⟨by decide +kernel, by decide +kernel⟩, List.mem_of_getElem? (i := 15) (by decide +kernel), List.mem_of_getElem? (i := 490) (by decide +kernel), List.mem_of_getElem? (i := 491) (by decide +kernel)⟩
theorem lw_p22 : lw_okq (⟨"CaseDesk", "isDone", "(I)Z"⟩, 5) := ⟨⟨by decide +kernel, by decide +kernel⟩, List.mem_of_getElem? (i := 15) (by decide +kernel), List.mem_of_getElem? (i := 494) (by decide +kernel), List.mem_of_getElem? (i := 495) (by decide +kernel)⟩
theorem lw_p23 : lw_okq (⟨"CaseDesk", "hasWaitingChild", "(I)Z"⟩, 5) := ⟨⟨by decide +kernel, by decide +kernel⟩, List.mem_of_getElem? (i := 15) (by decide +kernel), List.mem_of_getElem? (i := 498) (by decide +kernel), List.mem_of_getElem? (i := 499) (by decide +kernel)⟩
theorem lw_p24 : lw_okq (⟨"CaseDesk", "markAll", "(I)V"⟩, 5) := ⟨⟨by decide +kernel, by decide +kernel⟩, List.mem_of_getElem? (i := 15) (by decide +kernel), List.mem_of_getElem? (i := 552) (by decide +kernel), List.mem_of_getElem? (i := 553) (by decide +kernel)⟩
theorem lw_p25 : lw_okq (⟨"CaseDeskModel", "fail", "(I)I"⟩, 43) := ⟨⟨by decide +kernel, by decide +kernel⟩, List.mem_of_getElem? (i := 556) (by decide +kernel), List.mem_of_getElem? (i := 700) (by decide +kernel), List.mem_of_getElem? (i := 701) (by decide +kernel)⟩
theorem lw_p26 : lw_okq (⟨"CaseDeskModel", "isSentry", "(I)Z"⟩, 43) := ⟨⟨by decide +kernel, by decide +kernel⟩, List.mem_of_getElem? (i := 556) (by decide +kernel), List.mem_of_getElem? (i := 715) (by decide +kernel), List.mem_of_getElem? (i := 716) (by decide +kernel)⟩
theorem lw_p27 : lw_okq (⟨"CaseDeskModel", "keep", "()V"⟩, 43) := ⟨⟨by decide +kernel, by decide +kernel⟩, List.mem_of_getElem? (i := 556) (by decide +kernel), List.mem_of_getElem? (i := 727) (by decide +kernel), List.mem_of_getElem? (i := 728) (by decide +kernel)⟩
theorem lw_p28 : lw_okq (⟨"CaseDeskModel", "create", "(II)V"⟩, 43) := ⟨⟨by decide +kernel, by decide +kernel⟩, List.mem_of_getElem? (i := 556) (by decide +kernel), List.mem_of_getElem? (i := 731) (by decide +kernel), List.mem_of_getElem? (i := 732) (by decide +kernel)⟩
theorem lw_p29 : lw_okq (⟨"CaseDeskModel", "book", "(II)Z"⟩, 43) := ⟨⟨by decide +kernel, by decide +kernel⟩, List.mem_of_getElem? (i := 556) (by decide +kernel), List.mem_of_getElem? (i := 735) (by decide +kernel), List.mem_of_getElem? (i := 736) (by decide +kernel)⟩
theorem lw_p30 : lw_okq (⟨"CaseDeskModel", "mark", "(II)V"⟩, 43) := ⟨⟨by decide +kernel, by decide +kernel⟩, List.mem_of_getElem? (i := 556) (by decide +kernel), List.mem_of_getElem? (i := 739) (by decide +kernel), List.mem_of_getElem? (i := 740) (by decide +kernel)⟩
theorem lw_p31 : lw_okq (⟨"CaseDeskModel", "isFinal", "(I)Z"⟩, 43) := ⟨⟨by decide +kernel, by decide +kernel⟩, List.mem_of_getElem? (i := 556) (by decide +kernel), List.mem_of_getElem? (i := 743) (by decide +kernel), List.mem_of_getElem? (i := 744) (by decide +kernel)⟩
def lw_privs_2 : List (MethodName × Nat) := [(⟨"CaseDesk", "lowestToExit", "()I"⟩, 5), (⟨"CaseDesk", "hasSatisfied", "(IZ)Z"⟩, 5), (⟨"CaseDesk$Plan", "ifPartHolds", "(I[I)Z"⟩, 14), (⟨"CaseDesk", "lowestToEnter", "()I"⟩, 5), (⟨"CaseDesk", "letIn", "(I)V"⟩, 5), (⟨"CaseDesk", "lowestToComplete", "()I"⟩, 5), (⟨"CaseDesk", "isDone", "(I)Z"⟩, 5), (⟨"CaseDesk", "hasWaitingChild", "(I)Z"⟩, 5), (⟨"CaseDesk", "markAll", "(I)V"⟩, 5), (⟨"CaseDeskModel", "fail", "(I)I"⟩, 43), (⟨"CaseDeskModel", "isSentry", "(I)Z"⟩, 43), (⟨"CaseDeskModel", "keep", "()V"⟩, 43), (⟨"CaseDeskModel", "create", "(II)V"⟩, 43), (⟨"CaseDeskModel", "book", "(II)Z"⟩, 43), (⟨"CaseDeskModel", "mark", "(II)V"⟩, 43), (⟨"CaseDeskModel", "isFinal", "(I)Z"⟩, 43)]
theorem lw_r2 : ∀ q ∈ lw_privs_2, lw_okq q := List.forall_mem_cons.mpr ⟨lw_p16, List.forall_mem_cons.mpr ⟨lw_p17, List.forall_mem_cons.mpr ⟨lw_p18, List.forall_mem_cons.mpr ⟨lw_p19, List.forall_mem_cons.mpr ⟨lw_p20, List.forall_mem_cons.mpr ⟨lw_p21, List.forall_mem_cons.mpr ⟨lw_p22, List.forall_mem_cons.mpr ⟨lw_p23, List.forall_mem_cons.mpr ⟨lw_p24, List.forall_mem_cons.mpr ⟨lw_p25, List.forall_mem_cons.mpr ⟨lw_p26, List.forall_mem_cons.mpr ⟨lw_p27, List.forall_mem_cons.mpr ⟨lw_p28, List.forall_mem_cons.mpr ⟨lw_p29, List.forall_mem_cons.mpr ⟨lw_p30, List.forall_mem_cons.mpr ⟨lw_p31, fun _ h => absurd h List.not_mem_nil⟩⟩⟩⟩⟩⟩⟩⟩⟩⟩⟩⟩⟩⟩⟩⟩
theorem lw_p32 : lw_okq (⟨"CaseDeskModel", "make", "(II)V"⟩, 43) := ⟨⟨by decide +kernel, by decide +kernel⟩, List.mem_of_getElem? (i := 556) (by decide +kernel), List.mem_of_getElem? (i := 747) (by decide +kernel), List.mem_of_getElem? (i := 748) (by decide +kernel)⟩
theorem lw_p33 : lw_okq (⟨"CaseDeskModel", "enter", "(II)V"⟩, 43) := ⟨⟨by decide +kernel, by decide +kernel⟩, List.mem_of_getElem? (i := 556) (by decide +kernel), List.mem_of_getElem? (i := 751) (by decide +kernel), List.mem_of_getElem? (i := 752) (by decide +kernel)⟩
theorem lw_p34 : lw_okq (⟨"CaseDeskModel", "kindOf", "(I)I"⟩, 43) := ⟨⟨by decide +kernel, by decide +kernel⟩, List.mem_of_getElem? (i := 556) (by decide +kernel), List.mem_of_getElem? (i := 758) (by decide +kernel), List.mem_of_getElem? (i := 759) (by decide +kernel)⟩
theorem lw_p35 : lw_okq (⟨"CaseDeskModel", "again", "(II)V"⟩, 43) := ⟨⟨by decide +kernel, by decide +kernel⟩, List.mem_of_getElem? (i := 556) (by decide +kernel), List.mem_of_getElem? (i := 762) (by decide +kernel), List.mem_of_getElem? (i := 763) (by decide +kernel)⟩
theorem lw_p36 : lw_okq (⟨"CaseDeskModel", "hasFlag", "(II)Z"⟩, 43) := ⟨⟨by decide +kernel, by decide +kernel⟩, List.mem_of_getElem? (i := 556) (by decide +kernel), List.mem_of_getElem? (i := 766) (by decide +kernel), List.mem_of_getElem? (i := 767) (by decide +kernel)⟩
theorem lw_p37 : lw_okq (⟨"CaseDeskModel", "hasEntry", "(I)Z"⟩, 43) := ⟨⟨by decide +kernel, by decide +kernel⟩, List.mem_of_getElem? (i := 556) (by decide +kernel), List.mem_of_getElem? (i := 770) (by decide +kernel), List.mem_of_getElem? (i := 771) (by decide +kernel)⟩
theorem lw_p38 : lw_okq (⟨"CaseDeskModel", "parentActive", "(I)Z"⟩, 43) := ⟨⟨by decide +kernel, by decide +kernel⟩, List.mem_of_getElem? (i := 556) (by decide +kernel), List.mem_of_getElem? (i := 774) (by decide +kernel), List.mem_of_getElem? (i := 775) (by decide +kernel)⟩
theorem lw_p39 : lw_okq (⟨"CaseDeskModel", "follows", "(II)Z"⟩, 43) := ⟨⟨by decide +kernel, by decide +kernel⟩, List.mem_of_getElem? (i := 556) (by decide +kernel), List.mem_of_getElem? (i := 778) (by decide +kernel), List.mem_of_getElem? (i := 779) (by decide +kernel)⟩
theorem lw_p40 : lw_okq (⟨"CaseDeskModel", "finish", "(I)I"⟩, 43) := ⟨⟨by decide +kernel, by decide +kernel⟩, List.mem_of_getElem? (i := 556) (by decide +kernel), List.mem_of_getElem? (i := 782) (by decide +kernel), List.mem_of_getElem? (i := 783) (by decide +kernel)⟩
theorem lw_p41 : lw_okq (⟨"CaseDeskModel", "workOff", "()V"⟩, 43) := ⟨⟨by decide +kernel, by decide +kernel⟩, List.mem_of_getElem? (i := 556) (by decide +kernel), List.mem_of_getElem? (i := 786) (by decide +kernel), List.mem_of_getElem? (i := 787) (by decide +kernel)⟩
theorem lw_p42 : lw_okq (⟨"CaseDeskModel", "toExit", "()I"⟩, 43) := ⟨⟨by decide +kernel, by decide +kernel⟩, List.mem_of_getElem? (i := 556) (by decide +kernel), List.mem_of_getElem? (i := 790) (by decide +kernel), List.mem_of_getElem? (i := 791) (by decide +kernel)⟩
theorem lw_p43 : lw_okq (⟨"CaseDeskModel", "someSatisfied", "(IZ)Z"⟩, 43) := ⟨⟨by decide +kernel, by decide +kernel⟩, List.mem_of_getElem? (i := 556) (by decide +kernel), List.mem_of_getElem? (i := 794) (by decide +kernel), List.mem_of_getElem? (i := 795) (by decide +kernel)⟩
theorem lw_p44 : lw_okq (⟨"CaseDeskModel", "satisfied", "(II)Z"⟩, 43) := ⟨⟨by decide +kernel, by decide +kernel⟩, List.mem_of_getElem? (i := 556) (by decide +kernel), List.mem_of_getElem? (i := 798) (by decide +kernel), List.mem_of_getElem? (i := 799) (by decide +kernel)⟩
theorem lw_p45 : lw_okq (⟨"CaseDeskModel", "toLetIn", "()I"⟩, 43) := ⟨⟨by decide +kernel, by decide +kernel⟩, List.mem_of_getElem? (i := 556) (by decide +kernel), List.mem_of_getElem? (i := 802) (by decide +kernel), List.mem_of_getElem? (i := 803) (by decide +kernel)⟩
theorem lw_p46 : lw_okq (⟨"CaseDeskModel", "letIn", "(I)V"⟩, 43) := ⟨⟨by decide +kernel, by decide +kernel⟩, List.mem_of_getElem? (i := 556) (by decide +kernel), List.mem_of_getElem? (i := 806) (by decide +kernel), List.mem_of_getElem? (i := 807) (by decide +kernel)⟩
theorem lw_p47 : lw_okq (⟨"CaseDeskModel", "toComplete", "()I"⟩, 43) := ⟨⟨by decide +kernel, by decide +kernel⟩, List.mem_of_getElem? (i := 556) (by decide +kernel), List.mem_of_getElem? (i := 810) (by decide +kernel), List.mem_of_getElem? (i := 811) (by decide +kernel)⟩
def lw_privs_3 : List (MethodName × Nat) := [(⟨"CaseDeskModel", "make", "(II)V"⟩, 43), (⟨"CaseDeskModel", "enter", "(II)V"⟩, 43), (⟨"CaseDeskModel", "kindOf", "(I)I"⟩, 43), (⟨"CaseDeskModel", "again", "(II)V"⟩, 43), (⟨"CaseDeskModel", "hasFlag", "(II)Z"⟩, 43), (⟨"CaseDeskModel", "hasEntry", "(I)Z"⟩, 43), (⟨"CaseDeskModel", "parentActive", "(I)Z"⟩, 43), (⟨"CaseDeskModel", "follows", "(II)Z"⟩, 43), (⟨"CaseDeskModel", "finish", "(I)I"⟩, 43), (⟨"CaseDeskModel", "workOff", "()V"⟩, 43), (⟨"CaseDeskModel", "toExit", "()I"⟩, 43), (⟨"CaseDeskModel", "someSatisfied", "(IZ)Z"⟩, 43), (⟨"CaseDeskModel", "satisfied", "(II)Z"⟩, 43), (⟨"CaseDeskModel", "toLetIn", "()I"⟩, 43), (⟨"CaseDeskModel", "letIn", "(I)V"⟩, 43), (⟨"CaseDeskModel", "toComplete", "()I"⟩, 43)]
theorem lw_r3 : ∀ q ∈ lw_privs_3, lw_okq q := List.forall_mem_cons.mpr ⟨lw_p32, List.forall_mem_cons.mpr ⟨lw_p33, List.forall_mem_cons.mpr ⟨lw_p34, List.forall_mem_cons.mpr ⟨lw_p35, List.forall_mem_cons.mpr ⟨lw_p36, List.forall_mem_cons.mpr ⟨lw_p37, List.forall_mem_cons.mpr ⟨lw_p38, List.forall_mem_cons.mpr ⟨lw_p39, List.forall_mem_cons.mpr ⟨lw_p40, List.forall_mem_cons.mpr ⟨lw_p41, List.forall_mem_cons.mpr ⟨lw_p42, List.forall_mem_cons.mpr ⟨lw_p43, List.forall_mem_cons.mpr ⟨lw_p44, List.forall_mem_cons.mpr ⟨lw_p45, List.forall_mem_cons.mpr ⟨lw_p46, List.forall_mem_cons.mpr ⟨lw_p47, fun _ h => absurd h List.not_mem_nil⟩⟩⟩⟩⟩⟩⟩⟩⟩⟩⟩⟩⟩⟩⟩⟩
theorem lw_p48 : lw_okq (⟨"CaseDeskModel", "done", "(I)Z"⟩, 43) := ⟨⟨by decide +kernel, by decide +kernel⟩, List.mem_of_getElem? (i := 556) (by decide +kernel), List.mem_of_getElem? (i := 814) (by decide +kernel), List.mem_of_getElem? (i := 815) (by decide +kernel)⟩
theorem lw_p49 : lw_okq (⟨"CaseDeskModel", "settled", "(I)Z"⟩, 43) := ⟨⟨by decide +kernel, by decide +kernel⟩, List.mem_of_getElem? (i := 556) (by decide +kernel), List.mem_of_getElem? (i := 818) (by decide +kernel), List.mem_of_getElem? (i := 819) (by decide +kernel)⟩
theorem lw_p50 : lw_okq (⟨"CaseDeskModel", "putBack", "()V"⟩, 43) := ⟨⟨by decide +kernel, by decide +kernel⟩, List.mem_of_getElem? (i := 556) (by decide +kernel), List.mem_of_getElem? (i := 822) (by decide +kernel), List.mem_of_getElem? (i := 823) (by decide +kernel)⟩
theorem lw_p51 : lw_okq (⟨"CaseDeskModel", "refusal", "(II)I"⟩, 43) := ⟨⟨by decide +kernel, by decide +kernel⟩, List.mem_of_getElem? (i := 556) (by decide +kernel), List.mem_of_getElem? (i := 830) (by decide +kernel), List.mem_of_getElem? (i := 831) (by decide +kernel)⟩
theorem lw_p52 : lw_okq (⟨"CaseDeskModel", "allowed", "(II)Z"⟩, 43) := ⟨⟨by decide +kernel, by decide +kernel⟩, List.mem_of_getElem? (i := 556) (by decide +kernel), List.mem_of_getElem? (i := 834) (by decide +kernel), List.mem_of_getElem? (i := 835) (by decide +kernel)⟩
theorem lw_p53 : lw_okq (⟨"CaseDeskModel", "markVariable", "(I)V"⟩, 43) := ⟨⟨by decide +kernel, by decide +kernel⟩, List.mem_of_getElem? (i := 556) (by decide +kernel), List.mem_of_getElem? (i := 846) (by decide +kernel), List.mem_of_getElem? (i := 847) (by decide +kernel)⟩
def lw_privs_4 : List (MethodName × Nat) := [(⟨"CaseDeskModel", "done", "(I)Z"⟩, 43), (⟨"CaseDeskModel", "settled", "(I)Z"⟩, 43), (⟨"CaseDeskModel", "putBack", "()V"⟩, 43), (⟨"CaseDeskModel", "refusal", "(II)I"⟩, 43), (⟨"CaseDeskModel", "allowed", "(II)Z"⟩, 43), (⟨"CaseDeskModel", "markVariable", "(I)V"⟩, 43)]
theorem lw_r4 : ∀ q ∈ lw_privs_4, lw_okq q := List.forall_mem_cons.mpr ⟨lw_p48, List.forall_mem_cons.mpr ⟨lw_p49, List.forall_mem_cons.mpr ⟨lw_p50, List.forall_mem_cons.mpr ⟨lw_p51, List.forall_mem_cons.mpr ⟨lw_p52, List.forall_mem_cons.mpr ⟨lw_p53, fun _ h => absurd h List.not_mem_nil⟩⟩⟩⟩⟩⟩
def lw_privs : List (MethodName × Nat) := lw_privs_1 ++ (lw_privs_2 ++ (lw_privs_3 ++ (lw_privs_4)))
def lw_tbl : List Cond := k2_sels lw_privs ++ tables_1
theorem lw_privs_ok : ∀ q ∈ lw_privs, lw_okq q := by
  show ∀ q ∈ lw_privs_1 ++ (lw_privs_2 ++ (lw_privs_3 ++ (lw_privs_4))), lw_okq q
  exact List.forall_mem_append.mpr ⟨lw_r1, List.forall_mem_append.mpr ⟨lw_r2, List.forall_mem_append.mpr ⟨lw_r3, lw_r4⟩⟩⟩
end
section
/-! cells are only added; references that are kept mean the same -/
def xj_ag (n : Nat) (ad ad' : Nat → Nat) : Prop := ∀ i, i < n ∨ (1000 ≤ i ∧ i < 2000) → ad' i = ad i
theorem xj_ag.rf {n : Nat} {ad : Nat → Nat} : xj_ag n ad ad := fun _ _ => rfl
theorem xj_ag.trans {n n' : Nat} {a b c : Nat → Nat} (h : xj_ag n a b) (hn : n ≤ n') (h' : xj_ag n' b c) : xj_ag n a c := fun i hi => (h' i (hi.imp (fun q => Nat.lt_of_lt_of_le q hn) id)).trans (h i hi)
theorem xj_cv_ag {n : Nat} {ad ad' : Nat → Nat} (h : xj_ag n ad ad') {v : Value} (hv : xj_ok n v = true) : xj_cv ad' v = xj_cv ad v := by
  cases v with
  | ref a =>
    simp only [xj_ok, Bool.or_eq_true, Bool.and_eq_true, decide_eq_true_eq] at hv
    simp only [xj_cv, h a hv]
  | _ => rfl
theorem xj_cl_ag {n : Nat} {ad ad' : Nat → Nat} (h : xj_ag n ad ad') {ls : List (Nat × Value)} (hv : ls.all (fun q => xj_ok n q.2) = true) : xj_cl ad' ls = xj_cl ad ls := by
  apply List.map_congr_left
  intro q hq
  rw [xj_cv_ag h (List.all_eq_true.mp hv q hq)]
theorem xj_st_ag {n : Nat} {ad ad' : Nat → Nat} (h : xj_ag n ad ad') {st : List Value} (hv : st.all (xj_ok n) = true) : st.map (xj_cv ad') = st.map (xj_cv ad) := by
  apply List.map_congr_left
  intro q hq
  rw [xj_cv_ag h (List.all_eq_true.mp hv q hq)]
/-- a plain step makes no cell -/
theorem xj_step_len {X : xj_T} {m : Nat} {i : Instr} {nx pc pc' : Nat} {ls ls' : List (Nat × Value)} {st st' : List Value} {w w' : xj_W} (h : xj_step X m i nx pc ls st w = some (pc', ls', st', w')) : w'.1.length = w.1.length := by
  unfold xj_step at h
  rcases xj_or_some h with h | h
  · unfold xj_sA at h
    split at h <;> simp only [Option.some.injEq, Prod.mk.injEq, reduceCtorEq] at h
    obtain ⟨-, -, -, rfl⟩ := h; rfl
  rcases xj_or_some h with h | h
  · unfold xj_sB at h
    repeat' split at h
    all_goals simp only [Option.some.injEq, Prod.mk.injEq, reduceCtorEq] at h
    obtain ⟨-, -, -, rfl⟩ := h; rfl
  rcases xj_or_some h with h | h
  · unfold xj_sC at h
    repeat' split at h
    all_goals simp only [Option.some.injEq, Prod.mk.injEq, reduceCtorEq] at h
    obtain ⟨-, -, -, rfl⟩ := h; rfl
  rcases xj_or_some h with h | h
  · unfold xj_sD at h
    repeat' split at h
    all_goals simp only [Option.some.injEq, Prod.mk.injEq, reduceCtorEq] at h
    obtain ⟨-, -, -, rfl⟩ := h; rfl
  rcases xj_or_some h with h | h
  · unfold xj_sE at h
    repeat' split at h
    all_goals simp only [Option.some.injEq, Prod.mk.injEq, reduceCtorEq] at h
    obtain ⟨-, -, -, rfl⟩ := h; rfl
  rcases xj_or_some h with h | h
  · unfold xj_sF at h
    repeat' split at h
    all_goals simp only [Option.some.injEq, Prod.mk.injEq, reduceCtorEq] at h
    obtain ⟨-, -, -, rfl⟩ := h; rfl
  rcases xj_or_some h with h | h
  · unfold xj_sG at h
    repeat' split at h
    all_goals simp only [Option.some.injEq, Prod.mk.injEq, reduceCtorEq] at h
    all_goals (obtain ⟨-, -, -, rfl⟩ := h; rfl)
  rcases xj_or_some h with h | h
  · unfold xj_sJ at h
    repeat' split at h
    all_goals simp only [Option.some.injEq, Prod.mk.injEq, reduceCtorEq] at h
    all_goals (obtain ⟨-, -, -, rfl⟩ := h; first | rfl | exact List.length_set)
  rcases xj_or_some h with h | h
  · unfold xj_sL at h
    repeat' split at h
    all_goals simp only [Option.some.injEq, Prod.mk.injEq, reduceCtorEq] at h
    all_goals (obtain ⟨-, -, -, rfl⟩ := h; rfl)
  rcases xj_or_some h with h | h
  · unfold xj_sH at h
    repeat' split at h
    all_goals first
      | cases h
      | (obtain ⟨t, -, he⟩ := Option.map_eq_some_iff.mp h
         simp only [Prod.mk.injEq] at he
         obtain ⟨-, -, -, rfl⟩ := he; rfl)
  rcases xj_or_some h with h | h
  · unfold xj_sI at h
    repeat' split at h
    all_goals simp only [Option.some.injEq, Prod.mk.injEq, reduceCtorEq] at h
    all_goals (obtain ⟨-, -, -, rfl⟩ := h; rfl)
  · unfold xj_sM at h
    repeat' split at h
    all_goals simp only [Option.some.injEq, Prod.mk.injEq, reduceCtorEq] at h
    all_goals (obtain ⟨-, -, -, rfl⟩ := h; rfl)
theorem xj_end_w {X : xj_T} {m : Nat} {i : Instr} {st : List Value} {w w' : xj_W} {o : Option Value ⊕ Nat} {c z : Nat} (h : xj_end X m i st w = some (o, w', c, z)) : w' = w ∧ c = 0 ∧ z = 0 := by
  unfold xj_end at h
  repeat' split at h
  all_goals simp only [Option.some.injEq, Prod.mk.injEq, reduceCtorEq] at h
  all_goals (obtain ⟨-, rfl, rfl, rfl⟩ := h; exact ⟨rfl, rfl, rfl⟩)
theorem xj_grow (X : xj_T) : ∀ (n d m pc : Nat) (ls : List (Nat × Value)) (st : List Value) (w : xj_W) (o : Option Value ⊕ Nat) (w' : xj_W) (c z : Nat), xj_run X n d m pc ls st w = some (o, w', c, z) → w.1.length ≤ w'.1.length := by
  intro n
  induction n with
  | zero => intro d m pc ls st w o w' c z h; simp [xj_run] at h
  | succ n ih =>
    intro d m pc ls st w o w' c z h
    rw [xj_run_succ] at h
    unfold xj_lay at h
    cases hcd : xj_cd X m pc with
    | none => simp [hcd] at h
    | some q =>
      obtain ⟨i, nx⟩ := q
      simp only [hcd] at h
      cases hs : xj_step X m i nx pc ls st w with
      | some f =>
        obtain ⟨pc', ls', st', w1⟩ := f
        simp only [hs] at h
        have h1 := ih _ _ _ _ _ _ _ _ _ _ h
        rw [xj_step_len hs] at h1
        exact h1
      | none =>
        simp only [hs] at h
        cases hi : xj_inv X m i st w with
        | some f =>
          obtain ⟨kd, y, av, rest⟩ := f
          simp only [hi] at h
          split at h
          · cases hy : xj_run X n (d - 1) y 0 (lv_args 0 av) [] w with
            | none => simp [hy] at h
            | some f =>
              obtain ⟨o1, w1, c1, z1⟩ := f
              have h1 := ih _ _ _ _ _ _ _ _ _ _ hy
              simp only [hy] at h
              cases o1 with
              | inl v =>
                simp only at h
                obtain ⟨o2, w2, c2, z2, e1, e2⟩ := xj_add_some h
                have h2 := ih _ _ _ _ _ _ _ _ _ _ e1
                simp only [Prod.mk.injEq] at e2
                obtain ⟨-, rfl, -, -⟩ := e2
                exact Nat.le_trans h1 h2
              | inr q =>
                simp only at h
                cases hca : xj_ca X m pc q with
                | none => simp [hca] at h
                | some hp0 =>
                 cases hp0 with
                 | none =>
                  simp only [hca] at h
                  split at h
                  · simp only [Option.some.injEq, Prod.mk.injEq] at h
                    obtain ⟨-, rfl, -, -⟩ := h
                    exact h1
                  · cases h
                 | some hp =>
                  simp only [hca] at h
                  split at h
                  · obtain ⟨o2, w2, c2, z2, e1, e2⟩ := xj_add_some h
                    have h2 := ih _ _ _ _ _ _ _ _ _ _ e1
                    simp only [Prod.mk.injEq] at e2
                    obtain ⟨-, rfl, -, -⟩ := e2
                    exact Nat.le_trans h1 h2
                  · cases h
          · cases h
        | none =>
          simp only [hi] at h
          cases he : xj_end X m i st w with
          | some f =>
            obtain ⟨o1, w1, c1, z1⟩ := f
            simp only [he, Option.some.injEq, Prod.mk.injEq] at h
            obtain ⟨-, rfl, -, -⟩ := h
            rw [(xj_end_w he).1]
            exact Nat.le_refl _
          | none =>
            simp only [he] at h
            cases ht : xj_th X m pc with
            | some q =>
              simp only [ht] at h
              split at h
              · simp only [Option.some.injEq, Prod.mk.injEq] at h
                obtain ⟨-, rfl, -, -⟩ := h
                exact Nat.le_refl _
              · cases h
            | none =>
              simp only [ht] at h
              cases hk : xj_mk X m i st with
              | none => simp [hk] at h
              | some f =>
                obtain ⟨sh, z0, rest⟩ := f
                simp only [hk] at h
                split at h
                · obtain ⟨o2, w2, c2, z2, e1, e2⟩ := xj_add_some h
                  have h2 := ih _ _ _ _ _ _ _ _ _ _ e1
                  simp only [Prod.mk.injEq] at e2
                  obtain ⟨-, rfl, -, -⟩ := e2
                  simp only [List.length_append, List.length_cons, List.length_nil] at h2
                  omega
                · cases h
end
section
/-! returns, and new cells -/
section XJ4
variable {p : Program} {l : Launch} {e : Env} {R : Room} {s : State} {m : MethodId} {args : Array Value} {below : List Frame} {meth : Method} {c : Code} {H : Heap} {locs : List Loc} {cells slots : Nat} {Q : State → Prop}
variable {D : va_G} {cl : List vw_C} {cA : FieldType → ClassId} {A : Nat → Prop} {nL : Nat} {ad : Nat → Nat} {cc : ByteArray}
variable {X : xj_T} {mi : Nat} {own : String} {Ts : List Jvm.Cond}
variable {i : Instr} {nx pc pc' : Nat} {ls ls' : List (Nat × Value)} {st st' : List Value} {w w' : xj_W} {la : Array Slot}
theorem xj_rt {Qc : Array Value → State → Outcome → State → Prop} {free : Addr → Prop} {o : Option Value ⊕ Nat} {c0 z0 : Nat} (hx : p.tables.exec = Jvm.exec) (hb : c.code = cc) (hr : meth.sig.returnType = (xj_mt X mi).2) (hlocks : meth.locks = false) (h : xj_end X mi i st w = some (o, w', c0, z0)) (hd : xj_dec cc nL pc i nx)
    (hq : ∀ v, o = .inl v → ∀ t : State, t.heap = H → s.WarmedH t.vm → Qc args s (.returned (v.map (xj_cv ad))) t) (hf : ∀ q ∈ locs, free q.base) :
    W p l e R s m args below meth c H locs cells slots (MQ below Qc args s cells slots free) (F0 m pc la (st.map (xj_cv ad))) := by
  obtain ⟨len, hdec, hfit⟩ := hd
  unfold xj_end at h
  split at h
  · split at h
    · rename_i hmt
      simp only [Option.some.injEq, Prod.mk.injEq] at h
      obtain ⟨rfl, rfl, rfl, rfl⟩ := h
      simp only [xj_fit, Bool.and_eq_true, decide_eq_true_eq] at hfit
      obtain ⟨rfl, rfl⟩ := hfit
      exact W.vret hx hb (hr.trans hmt) (fun t ht hW => hq none rfl t ht hW) hf hdec hlocks
    · cases h
  · rename_i v
    split at h
    · rename_i hmt
      simp only [Option.some.injEq, Prod.mk.injEq] at h
      obtain ⟨rfl, rfl, rfl, rfl⟩ := h
      simp only [xj_fit, Bool.and_eq_true, decide_eq_true_eq] at hfit
      obtain ⟨rfl, rfl⟩ := hfit
      exact W.iret hx hb (hr.trans hmt) (fun t ht hW => hq _ rfl t ht hW) hf hdec hlocks
    · rename_i hmt
      split at h
      · rename_i h01
        simp only [Option.some.injEq, Prod.mk.injEq] at h
        obtain ⟨rfl, rfl, rfl, rfl⟩ := h
        simp only [xj_fit, Bool.and_eq_true, decide_eq_true_eq] at hfit
        obtain ⟨rfl, rfl⟩ := hfit
        refine W.zret hx hb (hr.trans hmt) ?_ (fun t ht hW => hq _ rfl t ht hW) hf hdec hlocks
        rcases h01 with rfl | rfl
        · rfl
        · rfl
      · cases h
    · cases h
  · cases h
theorem xj_ag_up {n : Nat} {ad : Nat → Nat} {q : Nat} (hn : n < 1000) : xj_ag n ad (va_up ad n q) := fun i hi => va_up_ne ad q (by omega)
theorem xj_ag_up2 {n : Nat} {ad : Nat → Nat} {q : Nat} (hn : n < 1000) : xj_ag n ad (va_up ad 4096 q) := fun i hi => va_up_ne ad q (by omega)
/-- the cells' contents under addresses that agree -/
theorem xj_cell_ag {n : Nat} {ad ad' : Nat → Nat} (hag : xj_ag n ad ad') {σ : Nat → Int32} {τ : Nat → Int64} {sh : xj_S} (h : (match sh with | .inr (_, fs) => fs.all (xj_ok n) | .inl _ => true) = true) : xj_cell ad' cA σ τ sh = xj_cell ad cA σ τ sh := by
  rcases sh with ⟨ty, k⟩ | ⟨ci, fs⟩
  · cases ty <;> rfl
  · show Sum.inr (ci, fs.mapIdx (xj_fv ad' σ)) = Sum.inr (ci, fs.mapIdx (xj_fv ad σ))
    congr 2
    apply List.ext_getElem?
    intro j
    simp only [List.getElem?_mapIdx]
    cases hj : fs[j]? with
    | none => rfl
    | some v =>
      have hv := List.all_eq_true.mp h v (List.mem_of_getElem? hj)
      have e9 := xj_cv_ag hag hv
      cases v <;> first | rfl | (simp only [Option.map_some, xj_fv]; rw [e9])
theorem xj_wok_lt (hw : xj_wok w = true) : w.1.length < 1000 := by
  simp only [xj_wok, Bool.and_eq_true, decide_eq_true_eq] at hw
  exact hw.1
theorem xj_cw_ag {ad ad' : Nat → Nat} (hag : xj_ag w.1.length ad ad') (hw : xj_wok w = true) : xj_cw ad' cA w = xj_cw ad cA w := by
  apply List.ext_getElem?
  intro j
  simp only [xj_cw, List.getElem?_mapIdx]
  cases hj : w.1[j]? with
  | none => rfl
  | some sh =>
    have hl := (List.getElem?_eq_some_iff.mp hj).1
    simp only [Option.map_some]
    simp only [xj_wok, Bool.and_eq_true] at hw
    rw [hag j (Or.inl hl), xj_cell_ag hag (List.all_eq_true.mp hw.2 sh (List.mem_of_getElem? hj))]
/-- one cell more -/
theorem xj_cw_app {ad : Nat → Nat} {q : Nat} {sh : xj_S} {ad' : Nat → Nat} {σ' : Nat → Nat → Int32} {τ' : Nat → Nat → Int64} {e : va_E} (hw : xj_wok w = true) (had : ad' = va_up ad w.1.length q) (h1 : ∀ j, j ≠ w.1.length → σ' j = w.2.1 j) (h2 : ∀ j, j ≠ w.1.length → τ' j = w.2.2 j) (he : xj_cell ad' cA (σ' w.1.length) (τ' w.1.length) sh = e) :
    xj_cw ad' cA (w.1 ++ [sh], σ', τ') = xj_cw ad cA w ++ [(q, e)] := by
  have hn := xj_wok_lt hw
  have e0 : xj_cw ad' cA w = xj_cw ad cA w := xj_cw_ag (by rw [had]; exact xj_ag_up hn) hw
  rw [← e0]
  apply List.ext_getElem?
  intro j
  simp only [xj_cw, List.getElem?_mapIdx, List.getElem?_append, List.length_mapIdx]
  by_cases hj : j < w.1.length
  · simp only [if_pos hj, List.getElem?_mapIdx]
    cases hs : w.1[j]? with
    | none => rfl
    | some q9 => simp only [Option.map_some]; rw [h1 j (by omega), h2 j (by omega)]
  · simp only [if_neg hj]
    by_cases hj2 : j = w.1.length
    · subst hj2
      simp only [Nat.sub_self, List.getElem?_cons_zero, Option.map_some, he]
      rw [had, va_up_self]
    · have hz : ∃ z, j - w.1.length = z + 1 := ⟨j - w.1.length - 1, by omega⟩
      obtain ⟨z, hz⟩ := hz
      rw [hz]
      rfl
end XJ4
end
section
/-! behind a call: what a callee of ours leaves; what holds at every start -/
def xj_Qr (D : va_G) (cl : List vw_C) (cA : FieldType → ClassId) (A : Nat → Prop) (n : Nat) (ad : Nat → Nat) (v : Option Value) (w : xj_W) : Array Value → State → Outcome → State → Prop := fun _ st oc t =>
  ∃ ad', xj_ag n ad ad' ∧ oc = .returned (v.map (xj_cv ad')) ∧ va_P D cl (xj_cw ad' cA w) t.heap ∧ va_D A (xj_cw ad' cA w) ∧ va_F A st t
def xj_XC (D : va_G) (cl : List vw_C) (cA : FieldType → ClassId) (A : Nat → Prop) (E0 : String) (n : Nat) (ad : Nat → Nat) (w : xj_W) : String → State → State → Prop := fun E st t =>
  E = E0 ∧ ∃ ad', xj_ag n ad ad' ∧ va_P D cl (xj_cw ad' cA w) t.heap ∧ va_D A (xj_cw ad' cA w) ∧ va_F A st t
/-- no return -/
def xj_No : Array Value → State → Outcome → State → Prop := fun _ _ _ _ => False
section XJ5
variable {p : Program} {l : Launch} {e : Env} {R : Room} {s : State} {m : MethodId} {args : Array Value} {below : List Frame} {meth : Method} {c : Code} {H : Heap} {locs : List Loc} {cells slots : Nat} {Q : State → Prop}
variable {D : va_G} {cl : List vw_C} {cA : FieldType → ClassId} {A : Nat → Prop} {nL n mc ms pc : Nat} {ad : Nat → Nat} {la : Array Slot} {st0 rest : List Value} {a : Array Value} {w : xj_W}
theorem xj_cont {v : Option Value} (hr : va_Run p l e R s m args below meth c H locs cells slots mc ms (F0 m pc la st0) rest (xj_Qr D cl cA A n ad v w a) A) (hS : va_S A s.heap H locs)
    (kk : ∀ (ad' : Nat → Nat) (H1 : Heap) (locs1 : List Loc), xj_ag n ad ad' → va_P D cl (xj_cw ad' cA w) H1 → va_D A (xj_cw ad' cA w) → va_S A s.heap H1 locs1 → W p l e R s m args below meth c H1 locs1 (cells + mc) (slots + ms) Q (F0 m (pc + 3) la ((v.map (xj_cv ad')).toList ++ rest))) : W p l e R s m args below meth c H locs cells slots Q (F0 m pc la st0) := by
  intro T hT X
  obtain ⟨v9, st₀, t, T', L, h0, X', hL, e1, e2, ⟨ad', hag, hv, hP1, hD1, hz, hk⟩, st⟩ := hr T hT X
  cases hv
  rw [h0] at hz hk
  obtain ⟨t2, a1, b1⟩ := kk ad' T'.heap (locs ++ L) hag (by rw [e1]; exact hP1) hD1
    ⟨Nat.le_trans hS.1 (by rw [e1]; exact hz), fun q h1 h2 => by rw [e1, hk q (Nat.lt_of_lt_of_le h1 hS.1) h2]; exact hS.2.1 q h1 h2, fun q hq => by
      rcases List.mem_append.mp hq with h | h
      · exact hS.2.2 q h
      · exact hL q h⟩ T' rfl X'
  exact ⟨t2, st t2 a1, b1⟩
theorem xj_contX {E0 : String} (hr : vx_Run p l e R s m args below meth c H locs cells slots mc ms (F0 m pc la st0) rest (xj_No a) (xj_XC D cl cA A E0 n ad w) A) (hS : va_S A s.heap H locs)
    (kk : ∀ (ad' : Nat → Nat) (H1 : Heap) (locs1 : List Loc) (ce : Cell) (q9 : Addr), xj_ag n ad ad' → va_P D cl (xj_cw ad' cA w) H1 → va_D A (xj_cw ad' cA w) → va_S A s.heap H1 locs1 → H1[q9]? = some ce → ce.vm = .none → s.vm.findClass E0 = some ce.cls → vx_W p l e R s m args below meth c H1 locs1 (cells + mc) (slots + ms) Q (F0 m pc la rest) q9) : W p l e R s m args below meth c H locs cells slots Q (F0 m pc la st0) := by
  intro T hT X
  rcases hr T hT X with ⟨v, st₀, t, T', L, h0, X', hL, e1, e2, hno, st⟩ | ⟨q, st₀, t, T', L, E, ce, h0, X', hL, e1, e2, ⟨rfl, ad', hag, hP1, hD1, hz, hk⟩, hce, hcv, hcl, st⟩
  · exact hno.elim
  · rw [h0] at hz hk
    obtain ⟨t2, a1, b1⟩ := kk ad' T'.heap (locs ++ L) ce q hag (by rw [e1]; exact hP1) hD1
      ⟨Nat.le_trans hS.1 (by rw [e1]; exact hz), fun q h1 h2 => by rw [e1, hk q (Nat.lt_of_lt_of_le h1 hS.1) h2]; exact hS.2.1 q h1 h2, fun q hq => by
        rcases List.mem_append.mp hq with h | h
        · exact hS.2.2 q h
        · exact hL q h⟩ (by rw [e1]; exact hce) hcv hcl T' rfl X'
    exact ⟨t2, st.trans a1, b1⟩
end XJ5
/-- what holds of the tables and of the cells that were there before all ours -/
def xj_Fx (X : xj_T) (D : va_G) (cl : List vw_C) (cA : FieldType → ClassId) (A : Nat → Prop) (wk : List Jvm.Cond) (stL : List (String × Nat × String)) (ncL : List (String × String)) (ad : Nat → Nat) (U : State) (H : Heap) : Prop :=
  va_K D cl (xj_ty cA) U ∧ (∀ a n f, xj_gv X a = some (n, f) → va_T .int (ad a) n (fun j => .int (f j)) A U H) ∧ va_Z "CaseDesk" "STATE_AFTER" "[I" (.ref (ad 1001)) A U H ∧ (∀ w ∈ wk, va_Nw w U) ∧
  vx_Zq Bundle.tN "UNASSIGNED_STACK" Bundle.steD A U H ∧ vx_Zq Bundle.tN "SUPPRESSED_SENTINEL" Bundle.listD A U H ∧ (∀ q ∈ stL, ∃ sa, vk_R q.1 q.2.1 q.2.2 sa U) ∧ (∀ q ∈ ncL, va_Nc q.1 q.2 U)
/-- words of wk: the tables alone decide them, and warmer tables don't change them -/
def xj_Wk (wk : List Jvm.Cond) : Prop := ∀ w ∈ wk, w.onTables = true ∧ ∀ s U : State, s.WarmedH U.vm → va_Nw w s → va_Nw w U
theorem xj_Fx.go {X : xj_T} {D : va_G} {cl : List vw_C} {cA : FieldType → ClassId} {A : Nat → Prop} {wk : List Jvm.Cond} {stL : List (String × Nat × String)} {ncL : List (String × String)} {ad : Nat → Nat} {s U : State} {H H1 : Heap} (hwk : xj_Wk wk) (h : xj_Fx X D cl cA A wk stL ncL ad s H) (hW : s.WarmedH U.vm) (hq : ∀ a : Nat, a < H.size → ¬ A a → H1[a]? = H[a]?) : xj_Fx X D cl cA A wk stL ncL ad U H1 := by
  obtain ⟨h1, h2, h3, h4, h5, h6, h7, h8⟩ := h
  exact ⟨va_K.moved hW.alike h1, fun a n f hf => va_T.moved hW.alike ((h2 a n f hf).kept hq), va_Z.moved hW.alike (h3.kept hq), fun w hw => (hwk w hw).2 s U hW (h4 w hw), vx_Zq.moved hW.alike (h5.kept hq), vx_Zq.moved hW.alike (h6.kept hq),
    fun q hq' => by obtain ⟨sa, hs⟩ := h7 q hq'; exact ⟨sa, vk_R.warm hW hs⟩, fun q hq' => va_Nc.moved hW.alike (h8 q hq')⟩
theorem xj_Fx.ag {X : xj_T} {D : va_G} {cl : List vw_C} {cA : FieldType → ClassId} {A : Nat → Prop} {wk : List Jvm.Cond} {stL : List (String × Nat × String)} {ncL : List (String × String)} {ad ad' : Nat → Nat} {n : Nat} {s : State} {H : Heap} (hgv : ∀ a n f, xj_gv X a = some (n, f) → 1000 ≤ a ∧ a < 2000) (h : xj_Fx X D cl cA A wk stL ncL ad s H) (hag : xj_ag n ad ad') : xj_Fx X D cl cA A wk stL ncL ad' s H := by
  obtain ⟨h1, h2, h3, h4⟩ := h
  refine ⟨h1, fun a n f hf => ?_, ?_, h4⟩
  · rw [hag a (Or.inr (hgv a n f hf))]; exact h2 a n f hf
  · rw [hag 1001 (Or.inr (by omega))]; exact h3
/-- a callee's start -/
def xj_Pc (X : xj_T) (D : va_G) (cl : List vw_C) (cA : FieldType → ClassId) (sz : Nat) (wk : List Jvm.Cond) (stL : List (String × Nat × String)) (ncL : List (String × String)) (ad : Nat → Nat) (av : List Value) (w : xj_W) : Array Value → State → Prop :=
  va_Pc (av.map (xj_cv ad)) (fun U => xj_Fx X D cl cA (fun q => sz ≤ q) wk stL ncL ad U U.heap ∧ sz ≤ U.heap.size ∧ va_P D cl (xj_cw ad cA w) U.heap ∧ va_D (fun q => sz ≤ q) (xj_cw ad cA w))
theorem xj_Pc.blind {X : xj_T} {D : va_G} {cl : List vw_C} {cA : FieldType → ClassId} {sz : Nat} {wk : List Jvm.Cond} {stL : List (String × Nat × String)} {ncL : List (String × String)} {ad : Nat → Nat} {av : List Value} {w : xj_W} (hwk : xj_Wk wk) : FrameBlind (xj_Pc X D cl cA sz wk stL ncL ad av w) := by
  intro a U g mk h
  obtain ⟨h1, h2, h3⟩ := h
  exact ⟨h1, xj_Fx.go hwk h2 (State.WarmedH.refl U) (fun _ _ _ => rfl), h3⟩
/-- the room of a call at depth d -/
def xj_rm (d c z : Nat) : Room := { frames := d + 9, cells := c, slots := z, locals := 48 * d + 160 }
end
section
/-! what the tables owe, said once for all methods; a call of ours, walked -/
/-- the word on a method's code -/
def xj_wd (X : xj_T) (yN : Nat → MethodName) (bt : Nat → ByteArray) (mx : Nat → Nat) (hh : Nat → List (Nat × Nat × Nat × Nat)) (y : Nat) : Jvm.Cond := if hh y = [] then .code (yN y) (bt y) (mx y) (xj_mt X y).2 else .codeWith (yN y) (bt y) (mx y) (xj_mt X y).2 (hh y)
def xj_ws (X : xj_T) (yN : Nat → MethodName) (bt : Nat → ByteArray) (mx : Nat → Nat) (hh : Nat → List (Nat × Nat × Nat × Nat)) (cm : List Jvm.Cond) (y : Nat) : List Jvm.Cond := xj_wd X yN bt mx hh y :: cm
/-- a call's words -/
def xj_GM (X : xj_T) (yN : Nat → MethodName) (bt : Nat → ByteArray) (mx : Nat → Nat) (hh : Nat → List (Nat × Nat × Nat × Nat)) (cm : List Jvm.Cond) (cl : List vw_C) (wk : List Jvm.Cond) (mi ix kd y k : Nat) : Prop :=
  plainName (yN y).cls = true ∧ mx y ≤ 29 ∧ k + 1 ≤ mx y + (if kd = 0 then 1 else 0) ∧ xj_wd X yN bt mx hh y ∈ cm ∧ Jvm.Cond.initialized (yN y).cls ∈ cm ∧ ((yN y).cls ≠ "java/lang/invoke/MethodHandle" ∧ (yN y).cls ≠ "java/lang/invoke/VarHandle") ∧ (parseMethodDescriptor (yN y).desc).map (fun d => d.parameters.length) = some k ∧
  (kd = 0 → Jvm.Cond.static (yN y) ∈ cm) ∧
  (kd = 1 → hh y = [] ∧ Jvm.Cond.instanceMethod (yN y) ∈ cm ∧ Jvm.Cond.selects (yN y).cls (yN y) (yN y) ∈ cm ∧ ∃ T N, cl[(xj_mt X y).1]? = some ((yN y).cls, T, N)) ∧
  (kd = 2 → hh y = [] ∧ (yN y).name = "<init>" ∧ Jvm.Cond.instanceMethod (yN y) ∈ cm ∧ (xj_mt X y).2 = none) ∧
  (Jvm.Cond.methodLink (yN mi).cls ix (yN y) ∈ cm ∨ (kd ≠ 1 ∧ hh y = [] ∧ ∃ host, Jvm.Cond.methodLinkNest (yN mi).cls ix (yN y) host ∈ wk))
section XJ6
variable {p : Program} {l : Launch} {e : Env} {R : Room} {s : State} {m : MethodId} {args : Array Value} {below : List Frame} {meth : Method} {c : Code} {H : Heap} {locs : List Loc} {cells slots : Nat} {Q : State → Prop}
variable {D : va_G} {cl : List vw_C} {cA : FieldType → ClassId} {sz : Nat} {nL n mc ms pc d : Nat} {ad : Nat → Nat} {la : Array Slot} {rest av : List Value} {a : Array Value} {w w1 : xj_W}
variable {X : xj_T} {yN : Nat → MethodName} {bt : Nat → ByteArray} {mx : Nat → Nat} {hh : Nat → List (Nat × Nat × Nat × Nat)} {cm wk : List Jvm.Cond} {stL : List (String × Nat × String)} {ncL : List (String × String)} {mi ix kd y k : Nat} {cc : ByteArray}
theorem xj_good (hg : cm.all goodWord = true) {u : List Jvm.Cond} (hu : ∀ w ∈ u, w ∈ cm) : GoodIn cm u := fun w hw => ⟨hu w hw, good_of_word (List.all_eq_true.mp hg w (hu w hw))⟩
theorem xj_pre (hwk : xj_Wk wk) (hF : xj_Fx X D cl cA (fun q => sz ≤ q) wk stL ncL ad s s.heap) (hsz : sz ≤ s.heap.size) (hP : va_P D cl (xj_cw ad cA w) H) (hD : va_D (fun q => sz ≤ q) (xj_cw ad cA w)) (hS : va_S (fun q => sz ≤ q) s.heap H locs) : ∀ U : State, U.heap = H → s.WarmedH U.vm → xj_Pc X D cl cA sz wk stL ncL ad av w (av.map (xj_cv ad)).toArray U := by
  intro U hU hW
  refine ⟨rfl, ?_, ?_, ?_, hD⟩
  · rw [hU]
    exact xj_Fx.go hwk hF hW hS.2.1
  · rw [hU]; exact Nat.le_trans hsz hS.1
  · rw [hU]; exact hP
/-- the receiver's class -/
theorem xj_recv (hK : va_K D cl (xj_ty cA) s) (hP : va_P D cl (xj_cw ad cA w) H) {a cj : Nat} {fs : List Value} (hsh : w.1[a]? = some (.inr (cj, fs))) {C : String} {T : u_T} {N : Nat} (hcl : cl[cj]? = some (C, T, N)) : ∃ cellB : Cell, H[ad a]? = some cellB ∧ cellB.vm.isStatics = false ∧ s.vm.findClass C = some cellB.cls := by
  obtain ⟨r, h1, cell, q1, q2, q3, -⟩ := hP a _ (xj_cw_at hsh)
  have hr : r = (C, T, N) := Option.some.inj (h1.symm.trans hcl)
  subst hr
  obtain ⟨-, hfc, -⟩ := hK.1 cj _ hcl
  exact ⟨cell, q1, by rw [q3]; rfl, by rw [q2]; exact hfc⟩
theorem xj_lsum (r : List Value) : ((r.map (xj_cv ad)).map fun v => v.category).sum = (r.map fun v => v.category).sum := by
  rw [List.map_map]
  congr 1
  apply List.map_congr_left
  intro v _
  exact xj_cv_cat ad v
/-- a call that returns -/
theorem xj_ret {v : Option Value} {st : List Value} {i : Instr} {nx : Nat} (hx : p.tables.exec = Jvm.exec) (hb : c.code = cc) (hml : c.maxLocals = nL) (hown : s.vm.findClass (yN mi).cls = some m.cls) (hts : ∀ w ∈ cm, w.before args s = true) (hg : cm.all goodWord = true) (hwk : xj_Wk wk)
    (hF : xj_Fx X D cl cA (fun q => sz ≤ q) wk stL ncL ad s s.heap) (hsz : sz ≤ s.heap.size) (hP : va_P D cl (xj_cw ad cA w) H) (hD : va_D (fun q => sz ≤ q) (xj_cw ad cA w)) (hS : va_S (fun q => sz ≤ q) s.heap H locs) (hla : la.size = nL)
    (hGM : ∀ ix kd y k, xj_ml X mi ix = some (kd, y, k) → kd < 3 → xj_GM X yN bt mx hh cm cl wk mi ix kd y k)
    (hd : xj_dec cc nL pc i nx) (hi : xj_inv X mi i st w = some (kd, y, av, rest))
    (hM : Met l (yN y) (xj_ws X yN bt mx hh cm y) (xj_rm d mc ms) (xj_Pc X D cl cA sz wk stL ncL ad av w) (xj_Qr D cl cA (fun q => sz ≤ q) n ad v w1) mc ms (fun q => sz ≤ q))
    (hRf : d + 10 ≤ R.frames) (hRl : 48 * d + 208 ≤ R.locals) (hRc : cells + mc ≤ R.cells) (hRs : slots + ms ≤ R.slots) :
    va_Run p l e R s m args below meth c H locs cells slots mc ms (F0 m pc la (st.map (xj_cv ad))) (rest.map (xj_cv ad)) (xj_Qr D cl cA (fun q => sz ≤ q) n ad v w1 (av.map (xj_cv ad)).toArray) (fun q => sz ≤ q) ∧ nx = pc + 3 := by
  obtain ⟨len, hdec, hfit⟩ := hd
  have hwin : ∀ {y : Nat}, xj_wd X yN bt mx hh y ∈ cm → ∀ w ∈ xj_ws X yN bt mx hh cm y, w ∈ cm := by
    intro y h w hw
    rcases List.mem_cons.mp hw with rfl | hw
    · exact h
    · exact hw
  have S : CallFix p m c cc nL s args cm (yN mi).cls := ⟨hx, hb, hml, hown, hts⟩
  unfold xj_inv at hi
  split at hi
  · rename_i ix
    split at hi
    · rename_i y' k' hmlk
      split at hi
      · rename_i hcond
        simp only [Option.some.injEq, Prod.mk.injEq] at hi
        obtain ⟨rfl, rfl, rfl, rfl⟩ := hi
        simp only [xj_fit, Bool.and_eq_true, decide_eq_true_eq] at hfit
        obtain ⟨rfl, rfl⟩ := hfit
        obtain ⟨g1, g2, g3, g4, g5, g6, g7, g8, -, -, g11⟩ := hGM _ _ _ _ hmlk (by omega)
        refine ⟨?_, rfl⟩
        have hGood := xj_good hg (hwin g4)
        have hlen : ((st.take k').reverse.map (xj_cv ad)).length = k' := by rw [List.length_map, List.length_reverse, List.length_take]; omega
        have hst : st.map (xj_cv ad) = ((st.take k').reverse.map (xj_cv ad)).reverse ++ (st.drop k').map (xj_cv ad) := by
          rw [← List.map_reverse, List.reverse_reverse, ← List.map_append, List.take_append_drop]
        have hsum := xj_lsum (ad := ad) (st.drop k')
        have hm0 : (F0 m pc la (st.map (xj_cv ad))).monitorRoom = 0 := rfl
        have hW8 : 2 * (F0 m pc la (st.map (xj_cv ad))).monitorRoom + (((st.drop k').map (xj_cv ad)).map fun v => v.category).sum ≤ 8 := by rw [hm0, hsum]; omega
        have hps : PreS s H (xj_Pc X D cl cA sz wk stL ncL ad (st.take k').reverse w) ((st.take k').reverse.map (xj_cv ad)) := ⟨xj_Pc.blind hwk, xj_pre hwk hF hsz hP hD hS⟩
        have hroom : (xj_rm d mc ms).frames + 1 ≤ R.frames ∧ 8 + (mx y' + 11) + (xj_rm d mc ms).locals ≤ R.locals := by
          simp only [xj_rm]; omega
        by_cases hhy : hh y' = []
        · have hwd : xj_ws X yN bt mx hh cm y' = Jvm.Cond.code (yN y') (bt y') (mx y') (xj_mt X y').2 :: cm := by simp only [xj_ws, xj_wd, hhy, if_true]
          rcases g11 with g11 | ⟨-, -, host, g11⟩
          · exact va_runS S hM ⟨callB_of k' hts hGood hwd rfl rfl (hts _ g5) (hts _ g11) ⟨g6.1, g6.2, g7⟩ hroom, hts _ (g8 rfl)⟩ hps rfl hlen hla hst hW8 hdec ⟨hRc, hRs⟩
          · exact va_runSN S hM ⟨va_cnB k' hts hGood hwd rfl rfl (hF.2.2.2.1 _ g11) (hts _ g5) ⟨g6.1, g6.2, g7⟩ hroom, hts _ (g8 rfl), trivial⟩ hps rfl hlen hla hst hW8 hdec ⟨hRc, hRs⟩
        · have hwd : xj_ws X yN bt mx hh cm y' = Jvm.Cond.codeWith (yN y') (bt y') (mx y') (xj_mt X y').2 (hh y') :: cm := by simp only [xj_ws, xj_wd, hhy, if_false]
          rcases g11 with g11 | ⟨-, g11, -⟩
          · refine vx_runSW S hM (vx_cwSW k' hts (xj_good hg ?_) hwd rfl rfl ⟨g6.1, g6.2, g7⟩ hroom) hps rfl hlen hla hst hW8 hdec ⟨hRc, hRs⟩
            intro w hw
            rcases List.mem_append.mp hw with hw | hw
            · simp only [List.mem_cons, List.not_mem_nil, or_false] at hw
              rcases hw with rfl | rfl | rfl
              · exact g11
              · exact g8 rfl
              · exact g5
            · exact hwin g4 w hw
          · exact absurd g11 hhy
      · cases hi
    · cases hi
  · rename_i ix
    split at hi
    · rename_i y' k' hmlk
      split at hi
      · rename_i b r hdrop
        split at hi
        · rename_i cj fs hsh
          split at hi
          · rename_i hcond
            simp only [Option.some.injEq, Prod.mk.injEq] at hi
            obtain ⟨rfl, rfl, rfl, rfl⟩ := hi
            simp only [xj_fit, Bool.and_eq_true, decide_eq_true_eq] at hfit
            obtain ⟨rfl, rfl⟩ := hfit
            obtain ⟨g1, g2, g3, g4, g5, g6, g7, -, g9, -, g11⟩ := hGM _ _ _ _ hmlk (by omega)
            obtain ⟨hhy, gi, gs, T9, N9, gcl⟩ := g9 rfl
            refine ⟨?_, rfl⟩
            have hGood := xj_good hg (hwin g4)
            have hkl : k' < st.length := by
              have h9 : (st.drop k').length = r.length + 1 := by rw [hdrop]; rfl
              rw [List.length_drop] at h9
              omega
            have hlen : ((st.take k').reverse.map (xj_cv ad)).length = k' := by rw [List.length_map, List.length_reverse, List.length_take]; omega
            have hst : st.map (xj_cv ad) = ((st.take k').reverse.map (xj_cv ad)).reverse ++ .ref (ad b) :: r.map (xj_cv ad) := by
              rw [← List.map_reverse, List.reverse_reverse]
              have h9 : (.ref (ad b) :: r.map (xj_cv ad) : List Value) = (st.drop k').map (xj_cv ad) := by rw [hdrop]; rfl
              rw [h9, ← List.map_append, List.take_append_drop]
            have hsum := xj_lsum (ad := ad) r
            have hm0 : (F0 m pc la (st.map (xj_cv ad))).monitorRoom = 0 := rfl
            have hW8 : 2 * (F0 m pc la (st.map (xj_cv ad))).monitorRoom + ((r.map (xj_cv ad)).map fun v => v.category).sum ≤ 8 := by rw [hm0, hsum]; omega
            have hroom : (xj_rm d mc ms).frames + 1 ≤ R.frames ∧ 8 + (mx y' + 11) + (xj_rm d mc ms).locals ≤ R.locals := by
              simp only [xj_rm]; omega
            have hwd : xj_ws X yN bt mx hh cm y' = Jvm.Cond.code (yN y') (bt y') (mx y') (xj_mt X y').2 :: cm := by simp only [xj_ws, xj_wd, hhy, if_true]
            have hpv : PreV s H (yN y').cls (ad b) (xj_Pc X D cl cA sz wk stL ncL ad (.ref b :: (st.take k').reverse) w) ((st.take k').reverse.map (xj_cv ad)) :=
              ⟨xj_Pc.blind hwk, xj_recv hF.1 hP hsh (by rw [hcond.1]; exact gcl), xj_pre hwk hF hsz hP hD hS⟩
            rcases g11 with g11 | ⟨g11, -⟩
            · exact va_runV S hM ⟨callB_of k' hts hGood hwd rfl rfl (hts _ g5) (hts _ g11) ⟨g6.1, g6.2, g7⟩ hroom, hts _ gi, hts _ gs⟩ hpv rfl hlen hla hst hW8 hdec ⟨hRc, hRs⟩
            · exact absurd rfl g11
          · cases hi
        · cases hi
      · cases hi
    · cases hi
  · rename_i ix
    split at hi
    · rename_i y' k' hmlk
      split at hi
      · rename_i b r hdrop
        split at hi
        · rename_i hcond
          simp only [Option.some.injEq, Prod.mk.injEq] at hi
          obtain ⟨rfl, rfl, rfl, rfl⟩ := hi
          simp only [xj_fit, Bool.and_eq_true, decide_eq_true_eq] at hfit
          obtain ⟨rfl, rfl⟩ := hfit
          obtain ⟨g1, g2, g3, g4, g5, g6, g7, -, -, g10, g11⟩ := hGM _ _ _ _ hmlk (by omega)
          obtain ⟨hhy, gn, gi, gr⟩ := g10 rfl
          refine ⟨?_, rfl⟩
          have hGood := xj_good hg (hwin g4)
          have hkl : k' < st.length := by
            have h9 : (st.drop k').length = r.length + 1 := by rw [hdrop]; rfl
            rw [List.length_drop] at h9
            omega
          have hlen : ((st.take k').reverse.map (xj_cv ad)).length = k' := by rw [List.length_map, List.length_reverse, List.length_take]; omega
          have hst : st.map (xj_cv ad) = ((st.take k').reverse.map (xj_cv ad)).reverse ++ .ref (ad b) :: r.map (xj_cv ad) := by
            rw [← List.map_reverse, List.reverse_reverse]
            have h9 : (.ref (ad b) :: r.map (xj_cv ad) : List Value) = (st.drop k').map (xj_cv ad) := by rw [hdrop]; rfl
            rw [h9, ← List.map_append, List.take_append_drop]
          have hsum := xj_lsum (ad := ad) r
          have hm0 : (F0 m pc la (st.map (xj_cv ad))).monitorRoom = 0 := rfl
          have hW8 : 2 * (F0 m pc la (st.map (xj_cv ad))).monitorRoom + ((r.map (xj_cv ad)).map fun v => v.category).sum ≤ 8 := by rw [hm0, hsum]; omega
          have hroom : (xj_rm d mc ms).frames + 1 ≤ R.frames ∧ 8 + (mx y' + 11) + (xj_rm d mc ms).locals ≤ R.locals := by
            simp only [xj_rm]; omega
          have hwd : xj_ws X yN bt mx hh cm y' = Jvm.Cond.code (yN y') (bt y') (mx y') none :: cm := by simp only [xj_ws, xj_wd, hhy, if_true, gr]
          have hps : PreS s H (xj_Pc X D cl cA sz wk stL ncL ad (.ref b :: (st.take k').reverse) w) (.ref (ad b) :: (st.take k').reverse.map (xj_cv ad)) := ⟨xj_Pc.blind hwk, xj_pre hwk hF hsz hP hD hS⟩
          rcases g11 with g11 | ⟨-, -, host, g11⟩
          · exact va_runI S hM ⟨callB_of k' hts hGood hwd rfl rfl (hts _ g5) (hts _ g11) ⟨g6.1, g6.2, g7⟩ hroom, gn, hts _ gi⟩ hps rfl hlen hla hst hW8 hdec ⟨hRc, hRs⟩
          · exact va_runIN S hM ⟨va_cnB k' hts hGood hwd rfl rfl (hF.2.2.2.1 _ g11) (hts _ g5) ⟨g6.1, g6.2, g7⟩ hroom, gn, hts _ gi⟩ hps rfl hlen hla hst hW8 hdec ⟨hRc, hRs⟩
        · cases hi
      · cases hi
    · cases hi
  · cases hi
end XJ6
end
section
/-! calls that throw, throws, catches, new cells -/
section XJ7
variable {p : Program} {l : Launch} {e : Env} {R : Room} {s : State} {m : MethodId} {args : Array Value} {below : List Frame} {meth : Method} {c : Code} {H : Heap} {locs : List Loc} {cells slots : Nat} {Q : State → Prop}
variable {D : va_G} {cl : List vw_C} {cA : FieldType → ClassId} {sz : Nat} {nL n mc ms pc d : Nat} {ad : Nat → Nat} {la : Array Slot} {rest av : List Value} {a : Array Value} {w w1 : xj_W}
variable {X : xj_T} {yN : Nat → MethodName} {bt : Nat → ByteArray} {mx : Nat → Nat} {hh : Nat → List (Nat × Nat × Nat × Nat)} {cm wk : List Jvm.Cond} {stL : List (String × Nat × String)} {ncL : List (String × String)} {mi ix kd y k : Nat} {cc : ByteArray}
theorem xj_retX {E0 : String} {st : List Value} {i : Instr} {nx : Nat} (hx : p.tables.exec = Jvm.exec) (hb : c.code = cc) (hml : c.maxLocals = nL) (hown : s.vm.findClass (yN mi).cls = some m.cls) (hts : ∀ w ∈ cm, w.before args s = true) (hg : cm.all goodWord = true) (hwk : xj_Wk wk)
    (hF : xj_Fx X D cl cA (fun q => sz ≤ q) wk stL ncL ad s s.heap) (hsz : sz ≤ s.heap.size) (hP : va_P D cl (xj_cw ad cA w) H) (hD : va_D (fun q => sz ≤ q) (xj_cw ad cA w)) (hS : va_S (fun q => sz ≤ q) s.heap H locs) (hla : la.size = nL)
    (hGM : ∀ ix kd y k, xj_ml X mi ix = some (kd, y, k) → kd < 3 → xj_GM X yN bt mx hh cm cl wk mi ix kd y k)
    (hd : xj_dec cc nL pc i nx) (hi : xj_inv X mi i st w = some (1, y, av, rest))
    (hM : vx_Met l (yN y) (xj_ws X yN bt mx hh cm y) (xj_rm d mc ms) (xj_Pc X D cl cA sz wk stL ncL ad av w) xj_No (xj_XC D cl cA (fun q => sz ≤ q) E0 n ad w1) mc ms (fun q => sz ≤ q))
    (hRf : d + 10 ≤ R.frames) (hRl : 48 * d + 208 ≤ R.locals) (hRc : cells + mc ≤ R.cells) (hRs : slots + ms ≤ R.slots) :
    vx_Run p l e R s m args below meth c H locs cells slots mc ms (F0 m pc la (st.map (xj_cv ad))) (rest.map (xj_cv ad)) (xj_No (av.map (xj_cv ad)).toArray) (xj_XC D cl cA (fun q => sz ≤ q) E0 n ad w1) (fun q => sz ≤ q) := by
  obtain ⟨len, hdec, hfit⟩ := hd
  have hwin : ∀ {y : Nat}, xj_wd X yN bt mx hh y ∈ cm → ∀ w ∈ xj_ws X yN bt mx hh cm y, w ∈ cm := by
    intro y h w hw
    rcases List.mem_cons.mp hw with rfl | hw
    · exact h
    · exact hw
  have S : CallFix p m c cc nL s args cm (yN mi).cls := ⟨hx, hb, hml, hown, hts⟩
  unfold xj_inv at hi
  split at hi
  · split at hi
    · split at hi
      · simp only [Option.some.injEq, Prod.mk.injEq] at hi
        exact absurd hi.1 (by decide)
      · cases hi
    · cases hi
  · rename_i ix
    split at hi
    · rename_i y' k' hmlk
      split at hi
      · rename_i b r hdrop
        split at hi
        · rename_i cj fs hsh
          split at hi
          · rename_i hcond
            simp only [Option.some.injEq, Prod.mk.injEq] at hi
            obtain ⟨-, rfl, rfl, rfl⟩ := hi
            simp only [xj_fit, Bool.and_eq_true, decide_eq_true_eq] at hfit
            obtain ⟨rfl, rfl⟩ := hfit
            obtain ⟨g1, g2, g3, g4, g5, g6, g7, -, g9, -, g11⟩ := hGM _ _ _ _ hmlk (by omega)
            obtain ⟨hhy, gi, gs, T9, N9, gcl⟩ := g9 rfl
            have hGood := xj_good hg (hwin g4)
            have hkl : k' < st.length := by
              have h9 : (st.drop k').length = r.length + 1 := by rw [hdrop]; rfl
              rw [List.length_drop] at h9
              omega
            have hlen : ((st.take k').reverse.map (xj_cv ad)).length = k' := by rw [List.length_map, List.length_reverse, List.length_take]; omega
            have hst : st.map (xj_cv ad) = ((st.take k').reverse.map (xj_cv ad)).reverse ++ .ref (ad b) :: r.map (xj_cv ad) := by
              rw [← List.map_reverse, List.reverse_reverse]
              have h9 : (.ref (ad b) :: r.map (xj_cv ad) : List Value) = (st.drop k').map (xj_cv ad) := by rw [hdrop]; rfl
              rw [h9, ← List.map_append, List.take_append_drop]
            have hsum := xj_lsum (ad := ad) r
            have hm0 : (F0 m pc la (st.map (xj_cv ad))).monitorRoom = 0 := rfl
            have hW8 : 2 * (F0 m pc la (st.map (xj_cv ad))).monitorRoom + ((r.map (xj_cv ad)).map fun v => v.category).sum ≤ 8 := by rw [hm0, hsum]; omega
            have hroom : (xj_rm d mc ms).frames + 1 ≤ R.frames ∧ 8 + (mx y' + 11) + (xj_rm d mc ms).locals ≤ R.locals := by
              simp only [xj_rm]; omega
            have hwd : xj_ws X yN bt mx hh cm y' = Jvm.Cond.code (yN y') (bt y') (mx y') (xj_mt X y').2 :: cm := by simp only [xj_ws, xj_wd, hhy, if_true]
            have hpv : PreV s H (yN y').cls (ad b) (xj_Pc X D cl cA sz wk stL ncL ad (.ref b :: (st.take k').reverse) w) ((st.take k').reverse.map (xj_cv ad)) :=
              ⟨xj_Pc.blind hwk, xj_recv hF.1 hP hsh (by rw [hcond.1]; exact gcl), xj_pre hwk hF hsz hP hD hS⟩
            rcases g11 with g11 | ⟨g11, -⟩
            · exact vx_runV S hM ⟨callB_of k' hts hGood hwd rfl rfl (hts _ g5) (hts _ g11) ⟨g6.1, g6.2, g7⟩ hroom, hts _ gi, hts _ gs⟩ hpv rfl hlen hla hst hW8 hdec ⟨hRc, hRs⟩
            · exact absurd rfl g11
          · cases hi
        · cases hi
      · cases hi
    · cases hi
  · split at hi
    · split at hi
      · split at hi
        · simp only [Option.some.injEq, Prod.mk.injEq] at hi
          exact absurd hi.1 (by decide)
        · cases hi
      · cases hi
    · cases hi
  · cases hi
/-- a throw's words -/
def xj_GT (yN : Nat → MethodName) (bt : Nat → ByteArray) (hh : Nat → List (Nat × Nat × Nat × Nat)) (cm wk : List Jvm.Cond) (stL : List (String × Nat × String)) (ex : Nat → String × List String) (mi pc q : Nat) : Prop :=
  ∃ (ik is ic : Nat) (text : String), hh mi = [] ∧ decode (bt mi) pc = .ok (.new ik, 3) ∧ decode (bt mi) (pc + 3) = .ok (.dup, 1) ∧ decode (bt mi) (pc + 4) = .ok (.ldc is, 2) ∧ decode (bt mi) (pc + 6) = .ok (.invokespecial ic, 3) ∧ decode (bt mi) (pc + 9) = .ok (.athrow, 1) ∧
    Bundle.fit (ex q).1 = true ∧ (∀ n ∈ (ex q).2, Bundle.fit n = true) ∧ (ex q).2.length ≤ 4 ∧ Jvm.Cond.classLink (yN mi).cls ik (ex q).1 ∈ cm ∧ Jvm.Cond.initialized (ex q).1 ∈ cm ∧ ((yN mi).cls, is, text) ∈ stL ∧
    (∀ w ∈ vx_atS (yN mi).cls ic (ex q).1 (ex q).2, w ∈ cm ∨ w ∈ wk) ∧ (∀ w ∈ Jvm.Cond.classLink (yN mi).cls ik (ex q).1 :: Jvm.Cond.initialized (ex q).1 :: vx_atS (yN mi).cls ic (ex q).1 (ex q).2, vx_ot w = true)
theorem xj_thw {ex : Nat → String × List String} {q n0 : Nat} {ad0 : Nat → Nat} (hx : p.tables.exec = Jvm.exec) (hb : c.code = bt mi) (hml : c.maxLocals = nL) (hlocks : meth.locks = false) (hown : s.vm.findClass (yN mi).cls = some m.cls) (hts : ∀ w ∈ cm, w.before args s = true) (hwk : xj_Wk wk) (hl : l.stackTraces = false) (htab : hh mi = [] → c.exceptionTable.toList = [])
    (hF : xj_Fx X D cl cA (fun q => sz ≤ q) wk stL ncL ad s s.heap) (hP : va_P D cl (xj_cw ad cA w) H) (hD : va_D (fun q => sz ≤ q) (xj_cw ad cA w)) (hS : va_S (fun q => sz ≤ q) s.heap H locs) (hla : la.size = nL) (hag : xj_ag n0 ad0 ad)
    (hGT : xj_GT yN bt hh cm wk stL ex mi pc q) (hRf : 9 ≤ R.frames) (hRl : 160 ≤ R.locals) (hRc : cells + 1 ≤ R.cells) (hRs : slots + 6 ≤ R.slots) :
    W p l e R s m args below meth c H locs cells slots (vx_MQ below xj_No (xj_XC D cl cA (fun q => sz ≤ q) (ex q).1 n0 ad0 w) args s (cells + 1) (slots + 6) (fun q => sz ≤ q)) (F0 m pc la []) := by
  obtain ⟨ik, is, ic, text, hhm, d0, d3, d4, d6, d9, f1, f2, f3, w1, w2, w3, w4, w5⟩ := hGT
  obtain ⟨sa, hsa⟩ := hF.2.2.2.2.2.2.1 _ w3
  refine vx_throwS hx hb hl hown f1 f2 (hts _ w1) (hts _ w2) hsa (fun w hw => ?_) w5 hF.2.2.2.2.1 hF.2.2.2.2.2.1 hS (hla.trans hml.symm) d0 d3 d4 d6 d9 (fun x hx9 => by rw [htab hhm] at hx9; cases hx9) (by omega) (by simp only [List.map_nil, List.sum_nil]; omega) hRc hRs hlocks ?_ hS.2.2 (Nat.le_refl _) (Nat.le_refl _)
  · rcases w4 w hw with h | h
    · exact hts _ h
    · exact va_Nw.use (hwk w h).1 (hF.2.2.2.1 w h)
  · intro t hvm hsz9 hk9
    refine ⟨rfl, ad, hag, ?_, hD, ?_⟩
    · exact hP.kept fun k q9 hq9 => hk9 _ (hP k q9 hq9).lt
    · exact ⟨Nat.le_trans hS.1 hsz9, fun q9 h1 h2 => by rw [hk9 q9 (Nat.lt_of_lt_of_le h1 hS.1)]; exact hS.2.1 q9 h1 h2⟩
end XJ7
end
section
/-! new cells; catches -/
/-- the words of a 'new' -/
def xj_GN (X : xj_T) (yN : Nat → MethodName) (cm : List Jvm.Cond) (cl : List vw_C) (mi ix ci : Nat) (fs : List Value) : Prop :=
  ∃ (C : String) (T : u_T) (N : Nat) (ty0 : Nat → FieldType) (gs : List Value), cl[ci]? = some (C, T, N) ∧ (∀ w ∈ u_ws C T N, w ∈ cm) ∧ (∀ k, k < N → parseFieldDescriptor (T k).2.2.1 = some (ty0 k)) ∧ Jvm.Cond.classLink (yN mi).cls ix C ∈ cm ∧ Jvm.Cond.instantiable C N ∈ cm ∧ Jvm.Cond.initialized C ∈ cm ∧ fs.length = N ∧
    (∀ ad', fs.mapIdx (xj_fv ad' (fun _ => 0)) = gs) ∧ ∀ j, j < N → defaultValue (ty0 j) = vp_V gs j
def xj_nxt (w : xj_W) (sh : xj_S) : xj_W := (w.1 ++ [sh], xj_setA w.2.1 w.1.length (fun _ => 0), fun j => if j = w.1.length then (fun _ => 0) else w.2.2 j)
section XJ8
variable {p : Program} {l : Launch} {e : Env} {R : Room} {s : State} {m : MethodId} {args : Array Value} {below : List Frame} {meth : Method} {c : Code} {H : Heap} {locs : List Loc} {cells slots : Nat} {Q : State → Prop}
variable {D : va_G} {cl : List vw_C} {cA : FieldType → ClassId} {A : Nat → Prop} {nL n mc ms pc d : Nat} {ad : Nat → Nat} {la : Array Slot} {rest st : List Value} {ls : List (Nat × Value)} {w : xj_W}
variable {X : xj_T} {yN : Nat → MethodName} {cm wk : List Jvm.Cond} {mi : Nat} {cc : ByteArray}
theorem xj_nxt_ne (w : xj_W) {j : Nat} (h : j ≠ w.1.length) : (fun j => if j = w.1.length then (fun _ => 0) else w.2.2 j : Nat → Nat → Int64) j = w.2.2 j := if_neg h
theorem xj_new {sh : xj_S} {z nx : Nat} {i : Instr} (hx : p.tables.exec = Jvm.exec) (hb : c.code = cc) (hown : s.vm.findClass (yN mi).cls = some m.cls) (hts : ∀ w ∈ cm, w.before args s = true) (hA : ∀ q, s.heap.size ≤ q → A q)
    (hK : va_K D cl (xj_ty cA) s) (hP : va_P D cl (xj_cw ad cA w) H) (hD : va_D A (xj_cw ad cA w)) (hS : va_S A s.heap H locs)
    (hGN : ∀ ix ci fs, xj_nw X mi ix = some (ci, fs) → xj_GN X yN cm cl mi ix ci fs)
    (hAr : Jvm.Cond.arrayClass .int ∈ cm ∧ Jvm.Cond.arrayClass .boolean ∈ cm ∧ Jvm.Cond.arrayClass .long ∈ cm)
    (hd : xj_dec cc nL pc i nx) (hk : xj_mk X mi i st = some (sh, z, rest)) (hw : xj_wok w = true) (hl : lv_has la nL (xj_cl ad ls)) (hsf : xj_safe w.1.length ls rest = true)
    (hRc : cells + 1 ≤ R.cells) (hRs : slots + z ≤ R.slots)
    (kk : ∀ (q : Nat) (H1 : Heap), lv_has la nL (xj_cl (va_up ad w.1.length q) ls) → va_P D cl (xj_cw (va_up ad w.1.length q) cA (xj_nxt w sh)) H1 → va_D A (xj_cw (va_up ad w.1.length q) cA (xj_nxt w sh)) → va_S A s.heap H1 locs →
      W p l e R s m args below meth c H1 locs (cells + 1) (slots + z) Q (F0 m nx la ((Value.ref w.1.length :: rest).map (xj_cv (va_up ad w.1.length q))))) :
    W p l e R s m args below meth c H locs cells slots Q (F0 m pc la (st.map (xj_cv ad))) := by
  have hn := xj_wok_lt hw
  simp only [xj_safe, Bool.and_eq_true] at hsf
  have hls : ∀ q, xj_cl (va_up ad w.1.length q) ls = xj_cl ad ls := fun q => xj_cl_ag (xj_ag_up hn) hsf.1
  have hrs : ∀ q, (Value.ref w.1.length :: rest).map (xj_cv (va_up ad w.1.length q)) = .ref q :: rest.map (xj_cv ad) := by
    intro q
    rw [List.map_cons, xj_st_ag (xj_ag_up hn) hsf.2]
    show Value.ref (va_up ad w.1.length q w.1.length) :: _ = _
    rw [va_up_self]
  obtain ⟨len, hdec, hfit⟩ := hd
  unfold xj_mk at hk
  split at hk
  · rename_i ix
    split at hk
    · rename_i ci fs hnw
      simp only [Option.some.injEq, Prod.mk.injEq] at hk
      obtain ⟨rfl, rfl, rfl⟩ := hk
      simp only [xj_fit, Bool.and_eq_true, decide_eq_true_eq] at hfit
      obtain ⟨rfl, rfl⟩ := hfit
      obtain ⟨C, T, N, ty0, gs, g1, g2, g3, g4, g5, g6, g7, g8, g9⟩ := hGN _ _ _ hnw
      rw [g7] at hRs kk
      refine va_new hx hb hts g2 ty0 g3 hown (hts _ g4) (hts _ g5) (hts _ g6) hK hP hD hS hA g1 (fs := gs) g9 hRc hRs hdec fun q H1 hP1 hD1 hS1 => ?_
      have hcw : xj_cw (va_up ad w.1.length q) cA (xj_nxt w (.inr (ci, fs))) = xj_cw ad cA w ++ [(q, .inr (ci, gs))] :=
        xj_cw_app hw rfl (fun j hj => xj_setA_ne _ _ hj) (fun j hj => xj_nxt_ne w hj) (by rw [xj_setA_same]; show Sum.inr (ci, fs.mapIdx (xj_fv _ (fun _ => 0))) = _; rw [g8])
      have k9 := kk q H1 (by rw [hls]; exact hl) (by rw [hcw]; exact hP1) (by rw [hcw]; exact hD1) hS1
      rw [hrs] at k9
      exact k9
    · cases hk
  · rename_i t
    split at hk
    · rename_i k9 r
      split at hk
      · cases hk
      · rename_i hno
        simp only [not_or] at hno
        obtain ⟨hk0, hk1⟩ := hno
        have hKf : ∀ (ty : FieldType) (cA' : ClassId), (∃ k : Nat, (xj_ty cA)[k]? = some (cA ty, ty)) → va_K D cl (xj_ty cA ++ [(cA', ty)]) s → (∀ cls, ty ≠ .object cls) → cA' = cA ty := by
          intro ty cA' ⟨k, hk9⟩ hK' hno9
          have h1 := (hK.2 k _ hk9).2
          have h2 := (hK'.2 3 (cA', ty) rfl).2
          have e1 : s.vm.findClass ("[" ++ ty.toString) = some (cA ty) := by
            cases ty <;> first | exact h1 | exact absurd rfl (hno9 _)
          have e2 : s.vm.findClass ("[" ++ ty.toString) = some cA' := by
            cases ty <;> first | exact h2 | exact absurd rfl (hno9 _)
          exact Option.some.inj (e2.symm.trans e1)
        split at hk
        · simp only [Option.some.injEq, Prod.mk.injEq] at hk
          obtain ⟨rfl, rfl, rfl⟩ := hk
          simp only [xj_fit, Bool.and_eq_true, decide_eq_true_eq] at hfit
          obtain ⟨rfl, rfl⟩ := hfit
          refine va_newa hx hb (hts _ hAr.1) (atype := .int) (ty := .int) rfl hK hP hD hS hA (a0 := (k9.toNatClampNeg, .inl (fun _ => 0))) (fun _ => rfl) hk0 rfl (by show k9.toNatClampNeg * 4 ≤ 536870912; omega) hRc hRs hdec fun q cA' H1 hK1 hP1 hD1 hS1 => ?_
          have hc9 := hKf .int cA' ⟨0, rfl⟩ hK1 (fun _ h => by cases h)
          subst hc9
          have hcw : xj_cw (va_up ad w.1.length q) cA (xj_nxt w (.inl (.int, k9.toNatClampNeg))) = xj_cw ad cA w ++ [(q, .inl (cA .int, k9.toNatClampNeg, .inl (fun _ => 0)))] :=
            xj_cw_app hw rfl (fun j hj => xj_setA_ne _ _ hj) (fun j hj => xj_nxt_ne w hj) (by rw [xj_setA_same]; rfl)
          have k8 := kk q H1 (by rw [hls]; exact hl) (by rw [hcw]; exact hP1) (by rw [hcw]; exact hD1) hS1
          rw [hrs] at k8
          exact k8
        · simp only [Option.some.injEq, Prod.mk.injEq] at hk
          obtain ⟨rfl, rfl, rfl⟩ := hk
          simp only [xj_fit, Bool.and_eq_true, decide_eq_true_eq] at hfit
          obtain ⟨rfl, rfl⟩ := hfit
          refine va_newa hx hb (hts _ hAr.2.1) (atype := .boolean) (ty := .boolean) rfl hK hP hD hS hA (a0 := (k9.toNatClampNeg, .inl (fun _ => 0))) (fun _ => rfl) hk0 rfl (by show k9.toNatClampNeg * 1 ≤ 536870912; omega) hRc hRs hdec fun q cA' H1 hK1 hP1 hD1 hS1 => ?_
          have hc9 := hKf .boolean cA' ⟨1, rfl⟩ hK1 (fun _ h => by cases h)
          subst hc9
          have hcw : xj_cw (va_up ad w.1.length q) cA (xj_nxt w (.inl (.boolean, k9.toNatClampNeg))) = xj_cw ad cA w ++ [(q, .inl (cA .boolean, k9.toNatClampNeg, .inl (fun _ => 0)))] :=
            xj_cw_app hw rfl (fun j hj => xj_setA_ne _ _ hj) (fun j hj => xj_nxt_ne w hj) (by rw [xj_setA_same]; rfl)
          have k8 := kk q H1 (by rw [hls]; exact hl) (by rw [hcw]; exact hP1) (by rw [hcw]; exact hD1) hS1
          rw [hrs] at k8
          exact k8
        · simp only [Option.some.injEq, Prod.mk.injEq] at hk
          obtain ⟨rfl, rfl, rfl⟩ := hk
          simp only [xj_fit, Bool.and_eq_true, decide_eq_true_eq] at hfit
          obtain ⟨rfl, rfl⟩ := hfit
          refine va_newa hx hb (hts _ hAr.2.2) (atype := .long) (ty := .long) rfl hK hP hD hS hA (a0 := (k9.toNatClampNeg, .inr (.inl (fun _ => 0)))) (fun _ => rfl) hk0 rfl (by show k9.toNatClampNeg * 8 ≤ 536870912; omega) hRc hRs hdec fun q cA' H1 hK1 hP1 hD1 hS1 => ?_
          have hc9 := hKf .long cA' ⟨2, rfl⟩ hK1 (fun _ h => by cases h)
          subst hc9
          have hcw : xj_cw (va_up ad w.1.length q) cA (xj_nxt w (.inl (.long, k9.toNatClampNeg))) = xj_cw ad cA w ++ [(q, .inl (cA .long, k9.toNatClampNeg, .inr (.inl (fun _ => 0))))] :=
            xj_cw_app hw rfl (fun j hj => xj_setA_ne _ _ hj) (fun j hj => xj_nxt_ne w hj) (by simp only [if_true]; rfl)
          have k8 := kk q H1 (by rw [hls]; exact hl) (by rw [hcw]; exact hP1) (by rw [hcw]; exact hD1) hS1
          rw [hrs] at k8
          exact k8
        · cases hk
    · cases hk
  · cases hk
/-- the words of a catch: the row of the table that takes it -/
def xj_GH (yN : Nat → MethodName) (hh : Nat → List (Nat × Nat × Nat × Nat)) (cm wk : List Jvm.Cond) (ncL : List (String × String)) (E : String) (mi pc hp : Nat) : Prop :=
  ∃ (pre : List ExceptionTableEntry) (x : ExceptionTableEntry) (suf : List ExceptionTableEntry) (nm : String), tableOf (hh mi) = pre ++ x :: suf ∧ x.handlerPc = hp ∧ covers x pc = true ∧ x.catchType ≠ 0 ∧ Jvm.Cond.classLink (yN mi).cls x.catchType nm ∈ cm ∧ Jvm.Cond.castable E nm ∈ wk ∧
    ∀ z ∈ pre, covers z pc = false ∨ (z.catchType ≠ 0 ∧ ∃ nm', Jvm.Cond.classLink (yN mi).cls z.catchType nm' ∈ cm ∧ (E, nm') ∈ ncL)
theorem xj_cth {hh : Nat → List (Nat × Nat × Nat × Nat)} {stL : List (String × Nat × String)} {ncL : List (String × String)} {E : String} {hp : Nat} {ce : Cell} {q : Addr} (hown : s.vm.findClass (yN mi).cls = some m.cls) (hts : ∀ w ∈ cm, w.before args s = true) (hwk : xj_Wk wk) (hF : xj_Fx X D cl cA A wk stL ncL ad s s.heap)
    (htab : c.exceptionTable.toList = tableOf (hh mi)) (hGH : xj_GH yN hh cm wk ncL E mi pc hp) (hcell : H[q]? = some ce) (hv : ce.vm = .none) (hcl : s.vm.findClass E = some ce.cls)
    (kk : W p l e R s m args below meth c H locs cells slots Q (F0 m hp la [.ref q])) : vx_W p l e R s m args below meth c H locs cells slots Q (F0 m pc la rest) q := by
  obtain ⟨pre, x, suf, nm, h1, rfl, h3, h4, h5, h6, h7⟩ := hGH
  refine vx_catch hown pre x suf (htab.trans h1) (fun z hz => ?_) h3 h4 (hts _ h5) (va_Nw.use (hwk _ h6).1 (hF.2.2.2.1 _ h6)) hcell hv hcl kk
  rcases h7 z hz with h | ⟨ha, nm', hb', hc'⟩
  · exact Or.inl h
  · exact Or.inr ⟨ha, nm', hts _ hb', hF.2.2.2.2.2.2.2 _ hc'⟩
end XJ8
end
section
/-! OUR MACHINE's RUNS ARE THE MODEL's -/
/-- all that the tables owe -/
def xj_Gl (X : xj_T) (yN : Nat → MethodName) (bt : Nat → ByteArray) (mx : Nat → Nat) (hh : Nat → List (Nat × Nat × Nat × Nat)) (cm wk : List Jvm.Cond) (cl : List vw_C) (stL : List (String × Nat × String)) (ncL : List (String × String)) (ex : Nat → String × List String) : Prop :=
  cm.all goodWord = true ∧ xj_Wk wk ∧
  (∀ mi pc i nx, xj_cd X mi pc = some (i, nx) → xj_dec (bt mi) (mx mi) pc i nx) ∧
  (∀ mi ix ci k so, xj_fl X mi ix = some (ci, k, so) → ∃ (C : String) (T : u_T) (N : Nat) (ty0 : Nat → FieldType), cl[ci]? = some (C, T, N) ∧ (∀ w ∈ u_ws C T N, w ∈ cm) ∧ (∀ k, k < N → parseFieldDescriptor (T k).2.2.1 = some (ty0 k)) ∧ (∀ a, a < N → ∀ b, b < N → a ≠ b → (T a).2.1 ≠ (T b).2.1) ∧ k < N ∧
    Jvm.Cond.fieldLink (yN mi).cls ix (T k).1 (T k).2.1 (T k).2.2.1 ∈ cm ∧
    (so = 0 → ty0 k = .int ∧ (T k).2.2.2 = false) ∧ (so = 1 → ty0 k = .boolean ∧ (T k).2.2.2 = false) ∧ (so = 2 → ((∃ t, ty0 k = .array t) ∨ ∃ n, ty0 k = .object n) ∧ (T k).2.2.2 = true ∧ (T k).1 = (yN mi).cls ∧ (yN mi).name = "<init>")) ∧
  (∀ mi ix a b, xj_ml X mi ix = some (9, a, b) → Jvm.Cond.methodLink (yN mi).cls ix Lib.objectInit ∈ cm ∧ Jvm.Cond.instanceMethod Lib.objectInit ∈ cm ∧ Jvm.Cond.code Lib.objectInit ⟨#[0xb1]⟩ 1 none ∈ cm) ∧
  (∀ mi ix a b, xj_ml X mi ix = some (8, a, b) → Jvm.Cond.methodLink (yN mi).cls ix arraycopyName ∈ cm ∧ Jvm.Cond.native arraycopyName ∈ cm ∧ Jvm.Cond.static arraycopyName ∈ cm ∧ Jvm.Cond.initialized "java/lang/System" ∈ cm) ∧
  (∀ mi ix a, xj_gs X mi ix = some a → a = 1001 ∧ ∃ host, Jvm.Cond.fieldLinkNest (yN mi).cls ix "CaseDesk" "STATE_AFTER" "[I" host ∈ wk) ∧
  (∀ a n f, xj_gv X a = some (n, f) → 1000 ≤ a ∧ a < 2000) ∧
  (∀ mi ix kd y k, xj_ml X mi ix = some (kd, y, k) → kd < 3 → xj_GM X yN bt mx hh cm cl wk mi ix kd y k) ∧
  (∀ mi ix ci fs, xj_nw X mi ix = some (ci, fs) → xj_GN X yN cm cl mi ix ci fs) ∧
  (Jvm.Cond.arrayClass .int ∈ cm ∧ Jvm.Cond.arrayClass .boolean ∈ cm ∧ Jvm.Cond.arrayClass .long ∈ cm) ∧
  (∀ mi pc q, xj_th X mi pc = some q → xj_GT yN bt hh cm wk stL ex mi pc q) ∧
  (∀ mi pc q, xj_ca X mi pc q = some none → hh mi = []) ∧
  (∀ mi pc q hp, xj_ca X mi pc q = some (some hp) → xj_GH yN hh cm wk ncL (ex q).1 mi pc hp)
/-- a frame of ours in the model -/
def xj_At (X : xj_T) (yN : Nat → MethodName) (bt : Nat → ByteArray) (mx : Nat → Nat) (hh : Nat → List (Nat × Nat × Nat × Nat)) (cm : List Jvm.Cond) (mi : Nat) (p : Program) (s : State) (m : MethodId) (args : Array Value) (meth : Method) (c : Code) : Prop :=
  p.tables.exec = Jvm.exec ∧ c.code = bt mi ∧ c.maxLocals = mx mi ∧ meth.sig.returnType = (xj_mt X mi).2 ∧ meth.locks = false ∧ s.vm.findClass (yN mi).cls = some m.cls ∧ meth.name = (yN mi).name ∧ (∀ w ∈ cm, w.before args s = true) ∧ c.exceptionTable.toList = tableOf (hh mi)
/-- what is asked of the end: a return comes to Q; a throw's Q is that of a method -/
def xj_Fin (X : xj_T) (bt : Nat → ByteArray) (mx : Nat → Nat) (ex : Nat → String × List String) (D : va_G) (cl : List vw_C) (cA : FieldType → ClassId) (sz : Nat) (mi : Nat) (p : Program) (l : Launch) (e : Env) (R : Room) (s : State) (m : MethodId) (args : Array Value) (below : List Frame) (meth : Method) (c : Code) (Q : State → Prop) (n0 : Nat) (ad0 : Nat → Nat) (o : Option Value ⊕ Nat) (w' : xj_W) (cells slots : Nat) : Prop :=
  match o with
  | .inl v => ∀ (ad : Nat → Nat) (H : Heap) (locs : List Loc) (la : Array Slot) (pc nx : Nat) (i : Instr) (st : List Value), xj_ag n0 ad0 ad → va_P D cl (xj_cw ad cA w') H → va_D (fun q => sz ≤ q) (xj_cw ad cA w') → va_S (fun q => sz ≤ q) s.heap H locs → xj_dec (bt mi) (mx mi) pc i nx → xj_end X mi i st w' = some (.inl v, w', 0, 0) →
      W p l e R s m args below meth c H locs cells slots Q (F0 m pc la (st.map (xj_cv ad)))
  | .inr q => Q = vx_MQ below xj_No (xj_XC D cl cA (fun q => sz ≤ q) (ex q).1 n0 ad0 w') args s cells slots (fun q => sz ≤ q)
def xj_FS (X : xj_T) (yN : Nat → MethodName) (bt : Nat → ByteArray) (mx : Nat → Nat) (hh : Nat → List (Nat × Nat × Nat × Nat)) (cm wk : List Jvm.Cond) (cl : List vw_C) (stL : List (String × Nat × String)) (ncL : List (String × String)) (ex : Nat → String × List String) (l : Launch) (n : Nat) : Prop :=
  ∀ (d mi pc : Nat) (ls : List (Nat × Value)) (st : List Value) (w : xj_W) (o : Option Value ⊕ Nat) (w' : xj_W) (dc dz : Nat), xj_run X n d mi pc ls st w = some (o, w', dc, dz) →
  ∀ (D : va_G) (cA : FieldType → ClassId) (sz : Nat) (p : Program) (e : Env) (R : Room) (s : State) (m : MethodId) (args : Array Value) (below : List Frame) (meth : Method) (c : Code) (cells slots n0 : Nat) (Q : State → Prop) (ad0 ad : Nat → Nat),
    xj_At X yN bt mx hh cm mi p s m args meth c → xj_Fx X D cl cA (fun q => sz ≤ q) wk stL ncL ad s s.heap → sz ≤ s.heap.size → n0 ≤ w.1.length → xj_ag n0 ad0 ad →
    d + 9 ≤ R.frames → 48 * d + 160 ≤ R.locals → cells + dc ≤ R.cells → slots + dz ≤ R.slots →
    xj_Fin X bt mx ex D cl cA sz mi p l e R s m args below meth c Q n0 ad0 o w' (cells + dc) (slots + dz) →
    xj_Go p l e R s m args below meth c cells slots Q D cl cA (fun q => sz ≤ q) (mx mi) ad pc ls st w
end
section
theorem xj_args (ad : Nat → Nat) : ∀ (av : List Value) (i : Nat), lv_args i (av.map (xj_cv ad)) = xj_cl ad (lv_args i av)
  | [], _ => rfl
  | v :: r, i => by
    simp only [List.map_cons, lv_args, xj_cl, xj_cv_cat]
    congr 1
    exact xj_args ad r _
theorem xj_slots (ad : Nat → Nat) : ∀ (av : List Value), xj_one av = true → (lg_sl (av.map (xj_cv ad))).length = av.length
  | [], _ => rfl
  | v :: r, h => by
    simp only [xj_one, List.all_cons, Bool.and_eq_true, beq_iff_eq] at h
    have h2 := xj_slots ad r h.2
    have hc : ¬ (xj_cv ad v).category = 2 := by rw [xj_cv_cat, h.1]; decide
    simp only [lg_sl, List.map_cons, List.flatMap_cons, hc, if_false, List.length_append, List.length_cons, List.length_nil] at h2 ⊢
    omega
section XJ9
variable {X : xj_T} {yN : Nat → MethodName} {bt : Nat → ByteArray} {mx : Nat → Nat} {hh : Nat → List (Nat × Nat × Nat × Nat)} {cm wk : List Jvm.Cond} {cl : List vw_C} {stL : List (String × Nat × String)} {ncL : List (String × String)} {ex : Nat → String × List String} {l : Launch} {n : Nat}
theorem xj_at_of {p : Program} {y d dc dz : Nat} {e : Env} {s : State} {m : MethodId} {args : Array Value} {below : List Frame} {meth : Method} {c : Code} {s₁ : State} (B : BodyLoose p l (yN y) (headSpec (xj_ws X yN bt mx hh cm y) (xj_rm d dc dz)) (bt y) (mx y) (xj_mt X y).2 e s m args below meth c s₁) (hml : c.maxLocals = mx y) : xj_At X yN bt mx hh cm y p s m args meth c := by
  have hts := atoms_spec (ws := xj_ws X yN bt mx hh cm y) B.pre
  refine ⟨B.exec, B.bytes, hml, B.returns, B.notSynchronized, findClass_of_methodNamed B.named, (name_of_methodNamed B.named B.method).1, fun w hw => hts w (List.mem_cons_of_mem _ hw), ?_⟩
  have hw := hts _ (List.mem_cons_self : xj_wd X yN bt mx hh y ∈ xj_ws X yN bt mx hh cm y)
  by_cases hhy : hh y = []
  · simp only [xj_wd, hhy, if_true] at hw
    have h9 := B.noHandlers hw
    rw [hhy]
    simpa [tableOf] using h9
  · simp only [xj_wd, hhy, if_false] at hw
    exact vx_table (x := yN y) B hw
theorem xj_ctr (hFS : xj_FS X yN bt mx hh cm wk cl stL ncL ex l n) {d y : Nat} {av : List Value} {w w1 : xj_W} {v : Option Value} {dc dz : Nat} (h : xj_run X n d y 0 (lv_args 0 av) [] w = some (.inl v, w1, dc, dz)) (hone : xj_one av = true) (hlen : av.length ≤ mx y) (hpl : plainName (yN y).cls = true) (D : va_G) (cA : FieldType → ClassId) (sz : Nat) (ad : Nat → Nat) :
    Met l (yN y) (xj_ws X yN bt mx hh cm y) (xj_rm d dc dz) (xj_Pc X D cl cA sz wk stL ncL ad av w) (xj_Qr D cl cA (fun q => sz ≤ q) w.1.length ad v w1) dc dz (fun q => sz ≤ q) := by
  have body : ∀ p e s m args below meth c s₁, BodyLoose p l (yN y) (headSpec (xj_ws X yN bt mx hh cm y) (xj_rm d dc dz)) (bt y) (mx y) (xj_mt X y).2 e s m args below meth c s₁ → c.maxLocals = mx y → xj_Pc X D cl cA sz wk stL ncL ad av w args s →
      W p l e (headSpec (xj_ws X yN bt mx hh cm y) (xj_rm d dc dz)).room s m args below meth c s.heap [] 0 0 (MQ below (xj_Qr D cl cA (fun q => sz ≤ q) w.1.length ad v w1) args s dc dz (fun q => sz ≤ q)) (entryFrame m args (mx y)) := by
    intro p e s m args below meth c s₁ B hml hv
    obtain ⟨rfl, hF, hsz, hP, hD⟩ := hv
    have hAt := xj_at_of B hml
    have hl0 := lv_entry (av.map (xj_cv ad)) (n := mx y) (by rw [xj_slots ad av hone]; exact hlen)
    rw [lg_entry_eq]
    generalize (lg_sl (av.map (xj_cv ad)) ++ List.replicate (mx y - (lg_sl (av.map (xj_cv ad))).length) Slot.unset).toArray = la at hl0 ⊢
    rw [xj_args] at hl0
    have hgo := hFS d y 0 (lv_args 0 av) [] w (.inl v) w1 dc dz h D cA sz p e (headSpec (xj_ws X yN bt mx hh cm y) (xj_rm d dc dz)).room s m (av.map (xj_cv ad)).toArray below meth c 0 0 w.1.length (MQ below (xj_Qr D cl cA (fun q => sz ≤ q) w.1.length ad v w1) (av.map (xj_cv ad)).toArray s (0 + dc) (0 + dz) (fun q => sz ≤ q)) ad ad hAt hF hsz (Nat.le_refl _) xj_ag.rf
      (Nat.le_refl (d + 9)) (Nat.le_refl (48 * d + 160)) (by rw [Nat.zero_add]; exact Nat.le_refl dc) (by rw [Nat.zero_add]; exact Nat.le_refl dz)
      (fun ad1 H locs la1 pc nx i st hag1 hP1 hD1 hS1 hd1 he1 => xj_rt hAt.1 hAt.2.1 hAt.2.2.2.1 hAt.2.2.2.2.1 he1 hd1 (fun v9 hv9 t ht hW => by
        cases hv9
        exact ⟨ad1, hag1, rfl, by rw [ht]; exact hP1, hD1, hS1.F ht⟩) hS1.2.2)
    have hW := hgo s.heap [] la hl0 hP hD va_S.rf
    rw [Nat.zero_add, Nat.zero_add] at hW
    exact hW
  by_cases hhy : hh y = []
  · exact Met.ofW (cc := bt y) (maxL := mx y) (ret := (xj_mt X y).2) (ws' := cm) hpl (by simp only [xj_ws, xj_wd, hhy, if_true]) body
  · exact va_MetW (cc := bt y) (maxL := mx y) (ret := (xj_mt X y).2) (hh := hh y) (ws' := cm) hpl (by simp only [xj_ws, xj_wd, hhy, if_false]) body
theorem xj_ctrX (hFS : xj_FS X yN bt mx hh cm wk cl stL ncL ex l n) {d y : Nat} {av : List Value} {w w1 : xj_W} {q : Nat} {dc dz : Nat} (h : xj_run X n d y 0 (lv_args 0 av) [] w = some (.inr q, w1, dc, dz)) (hone : xj_one av = true) (hlen : av.length ≤ mx y) (hpl : plainName (yN y).cls = true) (hhy : hh y = []) (D : va_G) (cA : FieldType → ClassId) (sz : Nat) (ad : Nat → Nat) :
    vx_Met l (yN y) (xj_ws X yN bt mx hh cm y) (xj_rm d dc dz) (xj_Pc X D cl cA sz wk stL ncL ad av w) xj_No (xj_XC D cl cA (fun q => sz ≤ q) (ex q).1 w.1.length ad w1) dc dz (fun q => sz ≤ q) := by
  refine vx_ofW (cc := bt y) (maxL := mx y) (ret := (xj_mt X y).2) (ws' := cm) hpl (by simp only [xj_ws, xj_wd, hhy, if_true]) ?_
  intro p e s m args below meth c s₁ B hml _ hv
  obtain ⟨rfl, hF, hsz, hP, hD⟩ := hv
  have hAt := xj_at_of B hml
  have hl0 := lv_entry (av.map (xj_cv ad)) (n := mx y) (by rw [xj_slots ad av hone]; exact hlen)
  rw [lg_entry_eq]
  generalize (lg_sl (av.map (xj_cv ad)) ++ List.replicate (mx y - (lg_sl (av.map (xj_cv ad))).length) Slot.unset).toArray = la at hl0 ⊢
  rw [xj_args] at hl0
  have hgo := hFS d y 0 (lv_args 0 av) [] w (.inr q) w1 dc dz h D cA sz p e (headSpec (xj_ws X yN bt mx hh cm y) (xj_rm d dc dz)).room s m (av.map (xj_cv ad)).toArray below meth c 0 0 w.1.length (vx_MQ below xj_No (xj_XC D cl cA (fun q => sz ≤ q) (ex q).1 w.1.length ad w1) (av.map (xj_cv ad)).toArray s (0 + dc) (0 + dz) (fun q => sz ≤ q)) ad ad hAt hF hsz (Nat.le_refl _) xj_ag.rf
    (Nat.le_refl (d + 9)) (Nat.le_refl (48 * d + 160)) (by rw [Nat.zero_add]; exact Nat.le_refl dc) (by rw [Nat.zero_add]; exact Nat.le_refl dz) rfl
  have hW := hgo s.heap [] la hl0 hP hD va_S.rf
  rw [Nat.zero_add, Nat.zero_add] at hW
  exact hW
theorem xj_inv_len {mi kd y : Nat} {i : Instr} {st av rest : List Value} {w : xj_W} (hi : xj_inv X mi i st w = some (kd, y, av, rest)) : ∃ ix k, xj_ml X mi ix = some (kd, y, k) ∧ kd < 3 ∧ av.length = k + (if kd = 0 then 0 else 1) := by
  unfold xj_inv at hi
  split at hi
  · rename_i ix
    split at hi
    · rename_i y' k' hmlk
      split at hi
      · rename_i hc
        simp only [Option.some.injEq, Prod.mk.injEq] at hi
        obtain ⟨rfl, rfl, rfl, rfl⟩ := hi
        refine ⟨ix, k', hmlk, by omega, ?_⟩
        rw [List.length_reverse, List.length_take]
        simp only [if_true]
        omega
      · cases hi
    · cases hi
  · rename_i ix
    split at hi
    · rename_i y' k' hmlk
      split at hi
      · rename_i b r hdrop
        split at hi
        · split at hi
          · simp only [Option.some.injEq, Prod.mk.injEq] at hi
            obtain ⟨rfl, rfl, rfl, rfl⟩ := hi
            refine ⟨ix, k', hmlk, by omega, ?_⟩
            have h9 : (st.drop k').length = r.length + 1 := by rw [hdrop]; rfl
            rw [List.length_drop] at h9
            rw [List.length_cons, List.length_reverse, List.length_take]
            simp only [Nat.succ_ne_zero, if_false]
            omega
          · cases hi
        · cases hi
      · cases hi
    · cases hi
  · rename_i ix
    split at hi
    · rename_i y' k' hmlk
      split at hi
      · rename_i b r hdrop
        split at hi
        · simp only [Option.some.injEq, Prod.mk.injEq] at hi
          obtain ⟨rfl, rfl, rfl, rfl⟩ := hi
          refine ⟨ix, k', hmlk, by omega, ?_⟩
          have h9 : (st.drop k').length = r.length + 1 := by rw [hdrop]; rfl
          rw [List.length_drop] at h9
          rw [List.length_cons, List.length_reverse, List.length_take]
          have : ¬ (2 : Nat) = 0 := by omega
          simp only [this, if_false]
          omega
        · cases hi
      · cases hi
    · cases hi
  · cases hi
end XJ9
end
section
set_option maxHeartbeats 1000000 in
/-- OUR MACHINE's RUNS ARE THE MODEL's: every frame of ours, wherever its cells lie -/
theorem xj_main {X : xj_T} {yN : Nat → MethodName} {bt : Nat → ByteArray} {mx : Nat → Nat} {hh : Nat → List (Nat × Nat × Nat × Nat)} {cm wk : List Jvm.Cond} {cl : List vw_C} {stL : List (String × Nat × String)} {ncL : List (String × String)} {ex : Nat → String × List String} {l : Launch}
    (G : xj_Gl X yN bt mx hh cm wk cl stL ncL ex) (hl : l.stackTraces = false) : ∀ n, xj_FS X yN bt mx hh cm wk cl stL ncL ex l n := by
  obtain ⟨gw, gk, gc, gf, go, ga, gs, gv, gm, gn, gr, gt, gp, gh⟩ := G
  intro n
  induction n with
  | zero => intro d mi pc ls st w o w' dc dz h; simp [xj_run] at h
  | succ n ih =>
    intro d mi pc ls st w o w' dc dz h D cA sz p e R s m args below meth c cells slots n0 Q ad0 ad hAt hF hsz hn0 hag hRf hRl hRc hRs hFin
    have hAt' := hAt
    obtain ⟨hx, hb, hml, hr, hlocks, hown, hname, hts, htab⟩ := hAt
    rw [xj_run_succ] at h
    unfold xj_lay at h
    cases hcd : xj_cd X mi pc with
    | none => simp [hcd] at h
    | some q0 =>
      obtain ⟨i, nx⟩ := q0
      simp only [hcd] at h
      have hdec := gc _ _ _ _ hcd
      cases hs : xj_step X mi i nx pc ls st w with
      | some f =>
        obtain ⟨pc', ls', st', w1⟩ := f
        simp only [hs] at h
        refine xj_snS hx hb hts hown hml hF.1 (by omega) (by omega) ⟨gc mi, ?_, ?_, ?_⟩ ?_ hF.2.1 hcd hs (ih d mi pc' ls' st' w1 o w' dc dz h D cA sz p e R s m args below meth c cells slots n0 Q ad0 ad hAt' hF hsz (by rw [xj_step_len hs]; exact hn0) hag hRf hRl hRc hRs hFin)
        · intro ix ci k so hfl
          obtain ⟨C, T, N, ty0, f1, f2, f3, f4, f5, f6, f7, f8, f9⟩ := gf _ _ _ _ _ hfl
          exact ⟨C, T, N, ty0, f1, f2, f3, f4, f5, hts _ f6, f7, f8, fun q => by rw [hname]; exact f9 q⟩
        · intro ix a b hO
          obtain ⟨o1, o2, o3⟩ := go _ _ _ _ hO
          exact ⟨hts _ o1, hts _ o2, hts _ o3⟩
        · intro ix a b hO
          obtain ⟨o1, o2, o3, o4⟩ := ga _ _ _ _ hO
          exact ⟨hts _ o1, hts _ o2, hts _ o3, hts _ o4⟩
        · intro ix a hg H locs pc9 la rest hS9 hd9 kk
          obtain ⟨rfl, host, hh9⟩ := gs _ _ _ hg
          exact va_getsN hx hb hF.2.2.1 hS9 hown (va_Nw.use (gk _ hh9).1 (hF.2.2.2.1 _ hh9)) (fun _ z => z) hd9 kk
      | none =>
        simp only [hs] at h
        cases hi : xj_inv X mi i st w with
        | some f =>
          obtain ⟨kd, y, av, rest⟩ := f
          simp only [hi] at h
          split at h
          · rename_i hcond
            obtain ⟨hd0, hsf, hone⟩ := hcond
            obtain ⟨ix, k, hmlk, hkd3, hlen⟩ := xj_inv_len hi
            have hGM := gm mi ix kd y k hmlk hkd3
            have hpl := hGM.1
            have hle : av.length ≤ mx y := by
              have h3 := hGM.2.2.1
              rw [hlen]
              by_cases hk0 : kd = 0
              · simp only [hk0, if_true] at h3 ⊢; omega
              · simp only [hk0, if_false] at h3 ⊢; omega
            simp only [xj_safe, Bool.and_eq_true] at hsf
            cases hy : xj_run X n (d - 1) y 0 (lv_args 0 av) [] w with
            | none => simp [hy] at h
            | some f =>
              obtain ⟨o1, w1, c1, z1⟩ := f
              have hgrow := xj_grow X _ _ _ _ _ _ _ _ _ _ _ hy
              simp only [hy] at h
              cases o1 with
              | inl v =>
                simp only at h
                obtain ⟨o2, w2, c2, z2, e1, e2⟩ := xj_add_some h
                simp only [Prod.mk.injEq] at e2
                obtain ⟨rfl, rfl, rfl, rfl⟩ := e2
                have hM := xj_ctr ih hy hone hle hpl D cA sz ad
                intro H locs la hl9 hP hD hS
                obtain ⟨hr9, hnx⟩ := xj_ret (d := d - 1) (la := la) (R := R) (e := e) (below := below) (meth := meth) (cells := cells) (slots := slots) hx hb hml hown hts gw gk hF hsz hP hD hS hl9.1 (gm mi) hdec hi hM (by omega) (by omega) (by omega) (by omega)
                subst hnx
                refine xj_cont hr9 hS fun ad' H1 locs1 hag1 hP1 hD1 hS1 => ?_
                have hgo := ih d mi (pc + 3) ls (v.toList ++ rest) w1 o w' c2 z2 e1 D cA sz p e R s m args below meth c (cells + c1) (slots + z1) n0 Q ad0 ad' hAt' (hF.ag gv hag1) hsz (Nat.le_trans hn0 hgrow) (hag.trans hn0 hag1) hRf hRl (by omega) (by omega) (by rw [Nat.add_assoc, Nat.add_assoc]; exact hFin)
                have k9 := hgo H1 locs1 la (by rw [xj_cl_ag hag1 hsf.1]; exact hl9) hP1 hD1 hS1
                have hst : (v.toList ++ rest).map (xj_cv ad') = (v.map (xj_cv ad')).toList ++ rest.map (xj_cv ad) := by
                  rw [List.map_append, xj_st_ag hag1 hsf.2]
                  cases v <;> rfl
                rw [hst] at k9
                exact k9
              | inr q =>
                simp only at h
                cases hca : xj_ca X mi pc q with
                | none => simp [hca] at h
                | some hp0 =>
                  cases hp0 with
                  | none =>
                    simp only [hca] at h
                    split at h
                    · rename_i hkd
                      subst hkd
                      simp only [Option.some.injEq, Prod.mk.injEq] at h
                      obtain ⟨rfl, rfl, rfl, rfl⟩ := h
                      obtain ⟨hhy, -⟩ := hGM.2.2.2.2.2.2.2.2.1 rfl
                      have hM := xj_ctrX ih hy hone hle hpl hhy D cA sz ad
                      intro H locs la hl9 hP hD hS
                      have hr9 := xj_retX (d := d - 1) (la := la) (R := R) (e := e) (below := below) (meth := meth) (cells := cells) (slots := slots) hx hb hml hown hts gw gk hF hsz hP hD hS hl9.1 (gm mi) hdec hi hM (by omega) (by omega) (by omega) (by omega)
                      have hQ : Q = vx_MQ below xj_No (xj_XC D cl cA (fun q => sz ≤ q) (ex q).1 n0 ad0 w1) args s (cells + c1) (slots + z1) (fun q => sz ≤ q) := hFin
                      subst hQ
                      refine xj_contX hr9 hS fun ad' H1 locs1 ce q9 hag1 hP1 hD1 hS1 hce hcv hcl => ?_
                      refine vx_out (fun x hx9 => by rw [htab, gp _ _ _ hca] at hx9; simp [tableOf] at hx9) hlocks hce hcv hcl (fun t ht hvm => ⟨rfl, ad', hag.trans hn0 hag1, by rw [ht]; exact hP1, hD1, hS1.F ht⟩) hS1.2.2 (Nat.le_refl _) (Nat.le_refl _)
                    · cases h
                  | some hp =>
                    simp only [hca] at h
                    split at h
                    · rename_i hcond2
                      obtain ⟨hkd, hwok⟩ := hcond2
                      subst hkd
                      obtain ⟨o2, w2, c2, z2, e1, e2⟩ := xj_add_some h
                      simp only [Prod.mk.injEq] at e2
                      obtain ⟨rfl, rfl, rfl, rfl⟩ := e2
                      obtain ⟨hhy, -⟩ := hGM.2.2.2.2.2.2.2.2.1 rfl
                      have hM := xj_ctrX ih hy hone hle hpl hhy D cA sz ad
                      intro H locs la hl9 hP hD hS
                      have hr9 := xj_retX (d := d - 1) (la := la) (R := R) (e := e) (below := below) (meth := meth) (cells := cells) (slots := slots) hx hb hml hown hts gw gk hF hsz hP hD hS hl9.1 (gm mi) hdec hi hM (by omega) (by omega) (by omega) (by omega)
                      refine xj_contX hr9 hS fun ad' H1 locs1 ce q9 hag1 hP1 hD1 hS1 hce hcv hcl => ?_
                      refine xj_cth hown hts gk (hF.ag gv hag1) htab (gh _ _ _ _ hca) hce hcv hcl ?_
                      have hup : xj_ag w1.1.length ad' (va_up ad' 4096 q9) := xj_ag_up2 (xj_wok_lt hwok)
                      have hcw : xj_cw (va_up ad' 4096 q9) cA w1 = xj_cw ad' cA w1 := xj_cw_ag hup hwok
                      have hag2 : xj_ag w.1.length ad (va_up ad' 4096 q9) := hag1.trans hgrow hup
                      have hgo := ih d mi hp ls [.ref 4096] w1 o w' c2 z2 e1 D cA sz p e R s m args below meth c (cells + c1) (slots + z1) n0 Q ad0 (va_up ad' 4096 q9) hAt' (hF.ag gv hag2) hsz (Nat.le_trans hn0 hgrow) (hag.trans hn0 hag2) hRf hRl (by omega) (by omega) (by rw [Nat.add_assoc, Nat.add_assoc]; exact hFin)
                      have k9 := hgo H1 locs1 la (by rw [xj_cl_ag hag2 hsf.1]; exact hl9) (by rw [hcw]; exact hP1) (by rw [hcw]; exact hD1) hS1
                      have hst : ([Value.ref 4096] : List Value).map (xj_cv (va_up ad' 4096 q9)) = [.ref q9] := by
                        show [Value.ref (va_up ad' 4096 q9 4096)] = _
                        rw [va_up_self]
                      rw [hst] at k9
                      exact k9
                    · cases h
          · cases h
        | none =>
          simp only [hi] at h
          cases he : xj_end X mi i st w with
          | some f =>
            obtain ⟨o1, w1, c1, z1⟩ := f
            simp only [he, Option.some.injEq, Prod.mk.injEq] at h
            obtain ⟨rfl, rfl, rfl, rfl⟩ := h
            obtain ⟨rfl, rfl, rfl⟩ := xj_end_w he
            intro H locs la hl9 hP hD hS
            cases o1 with
            | inl v => exact hFin ad H locs la pc nx i st hag hP hD hS hdec he
            | inr q =>
              exfalso
              unfold xj_end at he
              repeat' split at he
              all_goals simp only [Option.some.injEq, Prod.mk.injEq, reduceCtorEq, false_and] at he
          | none =>
            simp only [he] at h
            cases ht : xj_th X mi pc with
            | some q =>
              simp only [ht] at h
              split at h
              · rename_i hst
                simp only [Option.some.injEq, Prod.mk.injEq] at h
                obtain ⟨rfl, rfl, rfl, rfl⟩ := h
                have hst0 : st = [] := by simpa using hst
                subst hst0
                have hQ : Q = vx_MQ below xj_No (xj_XC D cl cA (fun q => sz ≤ q) (ex q).1 n0 ad0 w) args s (cells + 1) (slots + 6) (fun q => sz ≤ q) := hFin
                subst hQ
                intro H locs la hl9 hP hD hS
                exact xj_thw hx hb hml hlocks hown hts gk hl (fun q9 => by rw [htab, q9]; rfl) hF hP hD hS hl9.1 hag (gt _ _ _ ht) (by omega) (by omega) (by omega) (by omega)
              · cases h
            | none =>
              simp only [ht] at h
              cases hk : xj_mk X mi i st with
              | none => simp [hk] at h
              | some f =>
                obtain ⟨sh, z0, rest⟩ := f
                simp only [hk] at h
                split at h
                · rename_i hcond
                  obtain ⟨hsf, hwok⟩ := hcond
                  obtain ⟨o2, w2, c2, z2, e1, e2⟩ := xj_add_some h
                  simp only [Prod.mk.injEq] at e2
                  obtain ⟨rfl, rfl, rfl, rfl⟩ := e2
                  intro H locs la hl9 hP hD hS
                  refine xj_new hx hb hown hts (fun q hq => Nat.le_trans hsz hq) hF.1 hP hD hS (gn mi) gr hdec hk hwok hl9 hsf (by omega) (by omega) fun q H1 hl1 hP1 hD1 hS1 => ?_
                  have hup : xj_ag w.1.length ad (va_up ad w.1.length q) := xj_ag_up (xj_wok_lt hwok)
                  have hgo := ih d mi nx ls (.ref w.1.length :: rest) (xj_nxt w sh) o w' c2 z2 e1 D cA sz p e R s m args below meth c (cells + 1) (slots + z0) n0 Q ad0 (va_up ad w.1.length q) hAt' (hF.ag gv hup) hsz (by simp only [xj_nxt, List.length_append]; omega) (hag.trans hn0 hup) hRf hRl (by omega) (by omega) (by rw [Nat.add_assoc, Nat.add_assoc]; exact hFin)
                  exact hgo H1 locs la hl1 hP1 hD1 hS1
                · cases h
end
