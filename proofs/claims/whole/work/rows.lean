section
/-! A machine of our own over numbered cells: values are those of the model, but a reference is a number of a cell.
xj_W: the shapes of the cells, their ints, their longs. A shape: an array (type, length), or an object (number of its class, its fields: an int stands for a number, which lies in the ints). -/
abbrev xj_S : Type := (FieldType × Nat) ⊕ (Nat × List Value)
abbrev xj_W : Type := List xj_S × (Nat → Nat → Int32) × (Nat → Nat → Int64)
abbrev xj_F : Type := Nat × List (Nat × Value) × List Value × xj_W
/-- how a call ends: an answer, or the number of an exception's class; the cells behind it; cells and slots made -/
abbrev xj_R : Type := (Option Value ⊕ Nat) × xj_W × Nat × Nat
/-- tables: code (method, pc: instruction, next or target pc); fields (method, index: class, place, sort); calls (method, index: kind, callee, parameters); statics; new; throws; catches; given arrays; methods (class, answer's type); constants -/
abbrev xj_T : Type := (Nat → Nat → Option (Instr × Nat)) × (Nat → Nat → Option (Nat × Nat × Nat)) × (Nat → Nat → Option (Nat × Nat × Nat)) × (Nat → Nat → Option Nat) × (Nat → Nat → Option (Nat × List Value)) × (Nat → Nat → Option Nat) × (Nat → Nat → Nat → Option Nat) × (Nat → Option (Nat × (Nat → Int32))) × (Nat → Nat × Option FieldType)
abbrev xj_cd (X : xj_T) := X.1
abbrev xj_fl (X : xj_T) := X.2.1
abbrev xj_ml (X : xj_T) := X.2.2.1
abbrev xj_gs (X : xj_T) := X.2.2.2.1
abbrev xj_nw (X : xj_T) := X.2.2.2.2.1
abbrev xj_th (X : xj_T) := X.2.2.2.2.2.1
abbrev xj_ca (X : xj_T) := X.2.2.2.2.2.2.1
abbrev xj_gv (X : xj_T) := X.2.2.2.2.2.2.2.1
abbrev xj_mt (X : xj_T) := X.2.2.2.2.2.2.2.2
def xj_set (σ : Nat → Nat → Int32) (c k : Nat) (x : Int32) : Nat → Nat → Int32 := fun j => if j = c then upd (σ c) k x else σ j
def xj_setL (τ : Nat → Nat → Int64) (c k : Nat) (x : Int64) : Nat → Nat → Int64 := fun j => if j = c then vp_updL (τ c) k x else τ j
def xj_setA (σ : Nat → Nat → Int32) (c : Nat) (f : Nat → Int32) : Nat → Nat → Int32 := fun j => if j = c then f else σ j
/-- a store into the local i of one word -/
def xj_st1 (ls : List (Nat × Value)) (i : Nat) (v : Value) : List (Nat × Value) := (i, v) :: ls.filter (fun q => !(q.1 == i) && !(q.1 + 1 == i && q.2.category == 2))
def xj_const : Instr → Option Value
  | .iconst z => some (.int (Int32.ofInt z))
  | .bipush z => some (.int (Int8.ofInt z).toInt32)
  | .sipush z => some (.int (Int16.ofInt z).toInt32)
  | _ => none
def xj_load : Instr → Option (Bool × Nat)
  | .iload k => some (true, k)
  | .iload_n k => some (true, k.val)
  | .aload k => some (false, k)
  | .aload_n k => some (false, k.val)
  | _ => none
def xj_store : Instr → Option (Bool × Nat)
  | .istore k => some (true, k)
  | .istore_n k => some (true, k.val)
  | .astore k => some (false, k)
  | .astore_n k => some (false, k.val)
  | _ => none
def xj_sort : Bool → Value → Bool
  | true, .int _ => true
  | false, .ref _ => true
  | _, _ => false
def xj_op2 : Instr → Int32 → Int32 → Option Int32
  | .iadd, x, y => some (x + y)
  | .isub, x, y => some (x - y)
  | .imul, x, y => some (x * y)
  | .iand, x, y => some (x &&& y)
  | .ior, x, y => some (x ||| y)
  | .ixor, x, y => some (x ^^^ y)
  | .ishl, x, y => some (x <<< (y &&& 31))
  | .ishr, x, y => some (x >>> (y &&& 31))
  | .irem, x, y => if y = 0 then none else some (x - x / y * y)
  | .idiv, x, y => if y = 0 then none else some (x / y)
  | _, _, _ => none
def xj_stk : Instr → List Value → Option (List Value)
  | .dup, a :: r => if a.category = 1 then some (a :: a :: r) else none
  | .pop, a :: r => if a.category = 1 then some r else none
  | .dup_x1, a :: b :: r => if a.category = 1 ∧ b.category = 1 then some (a :: b :: a :: r) else none
  | .dup_x2, a :: b :: d :: r => if a.category = 1 ∧ b.category = 1 ∧ d.category = 1 then some (a :: b :: d :: a :: r) else none
  | .dup2, a :: b :: r => if a.category = 1 ∧ b.category = 1 then some (a :: b :: a :: b :: r) else none
  | _, _ => none
def xj_cmp : ClassFile.Cond → Int32 → Int32 → Bool
  | .eq, x, y => decide (x = y)
  | .ne, x, y => decide (x ≠ y)
  | .lt, x, y => decide (x < y)
  | .ge, x, y => decide (y ≤ x)
  | .gt, x, y => decide (y < x)
  | .le, x, y => decide (x ≤ y)
def xj_sA (i : Instr) (nx : Nat) (ls : List (Nat × Value)) (st : List Value) (w : xj_W) : Option xj_F :=
  match xj_const i with
  | some v => some (nx, ls, v :: st, w)
  | none => none
def xj_sB (i : Instr) (nx : Nat) (ls : List (Nat × Value)) (st : List Value) (w : xj_W) : Option xj_F :=
  match xj_load i with
  | some (b, k) => match ls.lookup k with
    | some v => if xj_sort b v = true then some (nx, ls, v :: st, w) else none
    | none => none
  | none => none
def xj_sC (i : Instr) (nx : Nat) (ls : List (Nat × Value)) (st : List Value) (w : xj_W) : Option xj_F :=
  match xj_store i, st with
  | some (b, k), v :: r => if xj_sort b v = true then some (nx, xj_st1 ls k v, r, w) else none
  | _, _ => none
def xj_sD (i : Instr) (nx : Nat) (ls : List (Nat × Value)) (st : List Value) (w : xj_W) : Option xj_F :=
  match i with
  | .iinc k z => match ls.lookup k with
    | some (.int x) => some (nx, xj_st1 ls k (.int (x + Int32.ofInt z)), st, w)
    | _ => none
  | _ => none
def xj_sE (i : Instr) (nx : Nat) (ls : List (Nat × Value)) (st : List Value) (w : xj_W) : Option xj_F :=
  match st with
  | .int y :: .int x :: r => match xj_op2 i x y with
    | some v => some (nx, ls, .int v :: r, w)
    | none => none
  | _ => none
def xj_sF (i : Instr) (nx : Nat) (ls : List (Nat × Value)) (st : List Value) (w : xj_W) : Option xj_F :=
  match xj_stk i st with
  | some st' => some (nx, ls, st', w)
  | none => none
def xj_sG (i : Instr) (nx pc : Nat) (ls : List (Nat × Value)) (st : List Value) (w : xj_W) : Option xj_F :=
  match i with
  | .goto _ => some (nx, ls, st, w)
  | .ifCond c _ => match st with
    | .int x :: r => some (if xj_cmp c x 0 = true then nx else pc + 3, ls, r, w)
    | _ => none
  | .if_icmp c _ => match st with
    | .int y :: .int x :: r => some (if xj_cmp c x y = true then nx else pc + 3, ls, r, w)
    | _ => none
  | _ => none
/-- where a jump by off lands -/
def xj_to (pc : Nat) (off : Int) : Option Nat := if 0 ≤ (pc : Int) + off then some ((pc : Int) + off).toNat else none
def xj_sH (i : Instr) (pc : Nat) (ls : List (Nat × Value)) (st : List Value) (w : xj_W) : Option xj_F :=
  match i, st with
  | .tableswitch dflt lo hi offs, .int x :: r =>
    if x.toInt < lo ∨ hi < x.toInt then (xj_to pc dflt).map fun t => (t, ls, r, w)
    else match offs[(x.toInt - lo).toNat]? with
      | some off => (xj_to pc off).map fun t => (t, ls, r, w)
      | none => none
  | .lookupswitch dflt ps, .int x :: r =>
    if (ps.toList.zip (ps.toList.drop 1)).all (fun (a, next) => a.1 < next.1) = true then (xj_to pc (Op.lookupswitch.offset ps.toList dflt x.toInt)).map fun t => (t, ls, r, w) else none
  | _, _ => none
def xj_sI (i : Instr) (nx : Nat) (ls : List (Nat × Value)) (st : List Value) (w : xj_W) : Option xj_F :=
  match i, st with
  | .i2l, .int x :: r => some (nx, ls, .long x.toInt64 :: r, w)
  | .lcmp, .long y :: .long x :: r => some (nx, ls, .int (lg_cmp x y) :: r, w)
  | .laload, .int j :: .ref c :: r => match w.1[c]? with
    | some (.inl (.long, n)) => if j < 0 ∨ n ≤ j.toNatClampNeg then none else some (nx, ls, .long (w.2.2 c j.toNatClampNeg) :: r, w)
    | _ => none
  | .lastore, .long x :: .int j :: .ref c :: r => match w.1[c]? with
    | some (.inl (.long, n)) => if j < 0 ∨ n ≤ j.toNatClampNeg then none else some (nx, ls, r, (w.1, w.2.1, xj_setL w.2.2 c j.toNatClampNeg x))
    | _ => none
  | _, _ => none
def xj_sJ (X : xj_T) (m : Nat) (i : Instr) (nx : Nat) (ls : List (Nat × Value)) (st : List Value) (w : xj_W) : Option xj_F :=
  match i, st with
  | .getfield ix, .ref c :: r => match xj_fl X m ix, w.1[c]? with
    | some (ci, k, _), some (.inr (cj, fs)) => if cj = ci then match fs[k]? with
        | some (.int _) => some (nx, ls, .int (w.2.1 c k) :: r, w)
        | some (.ref a) => some (nx, ls, .ref a :: r, w)
        | _ => none
      else none
    | _, _ => none
  | .putfield ix, .int x :: .ref c :: r => match xj_fl X m ix, w.1[c]? with
    | some (ci, k, so), some (.inr (cj, fs)) => if cj = ci then match fs[k]? with
        | some (.int _) => if so = 0 ∨ (so = 1 ∧ (x = 0 ∨ x = 1)) then some (nx, ls, r, (w.1, xj_set w.2.1 c k x, w.2.2)) else none
        | _ => none
      else none
    | _, _ => none
  | .putfield ix, .ref a :: .ref c :: r => match xj_fl X m ix, w.1[c]? with
    | some (ci, k, so), some (.inr (cj, fs)) => if cj = ci then match fs[k]? with
        | some .null => if so = 2 then some (nx, ls, r, (w.1.set c (.inr (cj, fs.set k (.ref a))), w.2.1, w.2.2)) else none
        | _ => none
      else none
    | _, _ => none
  | .getstatic ix, r => match xj_gs X m ix with
    | some a => some (nx, ls, .ref a :: r, w)
    | none => none
  | _, _ => none
def xj_sL (X : xj_T) (i : Instr) (nx : Nat) (ls : List (Nat × Value)) (st : List Value) (w : xj_W) : Option xj_F :=
  match i, st with
  | .iaload, .int j :: .ref c :: r => match w.1[c]? with
    | some (.inl (.int, n)) => if j < 0 ∨ n ≤ j.toNatClampNeg then none else some (nx, ls, .int (w.2.1 c j.toNatClampNeg) :: r, w)
    | some _ => none
    | none => match xj_gv X c with
      | some (n, f) => if j < 0 ∨ n ≤ j.toNatClampNeg then none else some (nx, ls, .int (f j.toNatClampNeg) :: r, w)
      | none => none
  | .baload, .int j :: .ref c :: r => match w.1[c]? with
    | some (.inl (.boolean, n)) => if j < 0 ∨ n ≤ j.toNatClampNeg then none else some (nx, ls, .int (w.2.1 c j.toNatClampNeg) :: r, w)
    | _ => none
  | .iastore, .int x :: .int j :: .ref c :: r => match w.1[c]? with
    | some (.inl (.int, n)) => if j < 0 ∨ n ≤ j.toNatClampNeg then none else some (nx, ls, r, (w.1, xj_set w.2.1 c j.toNatClampNeg x, w.2.2))
    | _ => none
  | .bastore, .int x :: .int j :: .ref c :: r => match w.1[c]? with
    | some (.inl (.boolean, n)) => if j < 0 ∨ n ≤ j.toNatClampNeg then none else some (nx, ls, r, (w.1, xj_set w.2.1 c j.toNatClampNeg (x &&& 1), w.2.2))
    | _ => none
  | .arraylength, .ref c :: r => match w.1[c]? with
    | some (.inl (.int, n)) => some (nx, ls, .int (Int32.ofNat n) :: r, w)
    | some _ => none
    | none => match xj_gv X c with
      | some (n, _) => some (nx, ls, .int (Int32.ofNat n) :: r, w)
      | none => none
  | _, _ => none
/-- Object.<init> (kind 9), System.arraycopy of ints (kind 8) -/
def xj_sM (X : xj_T) (m : Nat) (i : Instr) (nx : Nat) (ls : List (Nat × Value)) (st : List Value) (w : xj_W) : Option xj_F :=
  match i, st with
  | .invokespecial ix, .ref _ :: r => match xj_ml X m ix with
    | some (9, _, _) => if (r.map fun v => v.category).sum ≤ 8 then some (nx, ls, r, w) else none
    | _ => none
  | .invokestatic ix, .int n :: .int dp :: .ref b :: .int sp :: .ref a :: r => match xj_ml X m ix, w.1[a]?, w.1[b]? with
    | some (8, _, _), some (.inl (.int, na)), some (.inl (.int, nb)) =>
      if sp < 0 ∨ dp < 0 ∨ n < 0 ∨ na < sp.toNatClampNeg + n.toNatClampNeg ∨ nb < dp.toNatClampNeg + n.toNatClampNeg ∨ 8 < (r.map fun v => v.category).sum then none
      else some (nx, ls, r, (w.1, xj_setA w.2.1 b (va_cpy (w.2.1 a) (w.2.1 b) sp.toNatClampNeg dp.toNatClampNeg n.toNatClampNeg), w.2.2))
    | _, _, _ => none
  | _, _ => none
def xj_or (a b : Option xj_F) : Option xj_F := match a with
  | some r => some r
  | none => b
def xj_step (X : xj_T) (m : Nat) (i : Instr) (nx pc : Nat) (ls : List (Nat × Value)) (st : List Value) (w : xj_W) : Option xj_F :=
  xj_or (xj_sA i nx ls st w) (xj_or (xj_sB i nx ls st w) (xj_or (xj_sC i nx ls st w) (xj_or (xj_sD i nx ls st w) (xj_or (xj_sE i nx ls st w) (xj_or (xj_sF i nx ls st w) (xj_or (xj_sG i nx pc ls st w)
    (xj_or (xj_sJ X m i nx ls st w) (xj_or (xj_sL X i nx ls st w) (xj_or (xj_sH i pc ls st w) (xj_or (xj_sI i nx ls st w) (xj_sM X m i nx ls st w)))))))))))
/-- the end of a call -/
def xj_end (X : xj_T) (m : Nat) (i : Instr) (st : List Value) (w : xj_W) : Option xj_R :=
  match i, st with
  | .return_, [] => match (xj_mt X m).2 with
    | none => some (.inl none, w, 0, 0)
    | some _ => none
  | .ireturn, [.int v] => match (xj_mt X m).2 with
    | some .int => some (.inl (some (.int v)), w, 0, 0)
    | some .boolean => if v = 0 ∨ v = 1 then some (.inl (some (.int v)), w, 0, 0) else none
    | _ => none
  | _, _ => none
/-- references that may be carried on while cells are made: below n, or given arrays -/
def xj_ok (n : Nat) : Value → Bool
  | .ref a => decide (a < n) || (decide (1000 ≤ a) && decide (a < 2000))
  | _ => true
def xj_safe (n : Nat) (ls : List (Nat × Value)) (st : List Value) : Bool := ls.all (fun q => xj_ok n q.2) && st.all (xj_ok n)
/-- a call: kind (0 static, 1 on a receiver of the callee's class, 2 a constructor), callee, arguments, what is left on the stack -/
def xj_inv (X : xj_T) (m : Nat) (i : Instr) (st : List Value) (w : xj_W) : Option (Nat × Nat × List Value × List Value) :=
  match i with
  | .invokestatic ix => match xj_ml X m ix with
    | some (0, y, k) => if k ≤ st.length ∧ ((st.drop k).map fun v => v.category).sum ≤ 8 then some (0, y, (st.take k).reverse, st.drop k) else none
    | _ => none
  | .invokevirtual ix => match xj_ml X m ix with
    | some (1, y, k) => match st.drop k with
      | .ref c :: r => match w.1[c]? with
        | some (.inr (cj, _)) => if cj = (xj_mt X y).1 ∧ (r.map fun v => v.category).sum ≤ 8 then some (1, y, .ref c :: (st.take k).reverse, r) else none
        | _ => none
      | _ => none
    | _ => none
  | .invokespecial ix => match xj_ml X m ix with
    | some (2, y, k) => match st.drop k with
      | .ref c :: r => if (r.map fun v => v.category).sum ≤ 8 then some (2, y, .ref c :: (st.take k).reverse, r) else none
      | _ => none
    | _ => none
  | _ => none
/-- new cells: the type and the length, or the class and its fields -/
def xj_mk (X : xj_T) (m : Nat) (i : Instr) (st : List Value) : Option (xj_S × Nat × List Value) :=
  match i with
  | .new ix => match xj_nw X m ix with
    | some (ci, fs) => some (.inr (ci, fs), fs.length, st)
    | none => none
  | .newarray t => match st with
    | .int k :: r => if k < 0 ∨ 4096 < k.toNatClampNeg then none else match t with
      | .int => some (.inl (.int, k.toNatClampNeg), k.toNatClampNeg, r)
      | .boolean => some (.inl (.boolean, k.toNatClampNeg), k.toNatClampNeg, r)
      | .long => some (.inl (.long, k.toNatClampNeg), k.toNatClampNeg, r)
      | _ => none
    | _ => none
  | _ => none
def xj_add (c z : Nat) (r : Option xj_R) : Option xj_R := match r with
  | some (o, w, c1, z1) => some (o, w, c + c1, z + z1)
  | none => none
/-- one step of the machine, over what the rest does -/
def xj_lay (X : xj_T) (f : Nat → Nat → Nat → List (Nat × Value) → List Value → xj_W → Option xj_R) (d m pc : Nat) (ls : List (Nat × Value)) (st : List Value) (w : xj_W) : Option xj_R :=
  match xj_cd X m pc with
  | none => none
  | some (i, nx) =>
    match xj_step X m i nx pc ls st w with
    | some (pc', ls', st', w') => f d m pc' ls' st' w'
    | none =>
    match xj_inv X m i st w with
    | some (_, y, av, rest) =>
      if d ≠ 0 ∧ xj_safe w.1.length ls rest = true then
        match f (d - 1) y 0 (lv_args 0 av) [] w with
        | none => none
        | some (.inl v, w', c, z) => xj_add c z (f d m nx ls (v.toList ++ rest) w')
        | some (.inr q, w', c, z) => match xj_ca X m pc q with
          | some h => xj_add c z (f d m h ls [.ref 4096] w')
          | none => some (.inr q, w', c, z)
      else none
    | none =>
    match xj_end X m i st w with
    | some r => some r
    | none =>
    match xj_th X m pc with
    | some q => if st.isEmpty = true then some (.inr q, w, 1, 6) else none
    | none =>
    match xj_mk X m i st with
    | some (sh, z, rest) =>
      if xj_safe w.1.length ls rest = true then
        xj_add 1 z (f d m nx ls (.ref w.1.length :: rest) (w.1 ++ [sh], xj_setA w.2.1 w.1.length (fun _ => 0), fun j => if j = w.1.length then (fun _ => 0) else w.2.2 j))
      else none
    | none => none
def xj_run (X : xj_T) : Nat → Nat → Nat → Nat → List (Nat × Value) → List Value → xj_W → Option xj_R
  | 0 => fun _ _ _ _ _ _ => none
  | n + 1 => xj_lay X (xj_run X n)
theorem xj_run_succ (X : xj_T) (n : Nat) : xj_run X (n + 1) = xj_lay X (xj_run X n) := rfl
theorem xj_add_some {c z : Nat} {r : Option xj_R} {q : xj_R} (h : xj_add c z r = some q) : ∃ o w c1 z1, r = some (o, w, c1, z1) ∧ q = (o, w, c + c1, z + z1) := by
  cases r with
  | none => simp [xj_add] at h
  | some p =>
    obtain ⟨o, w, c1, z1⟩ := p
    simp only [xj_add, Option.some.injEq] at h
    exact ⟨o, w, c1, z1, rfl, h.symm⟩
/-- more room changes no answer -/
theorem xj_mono (X : xj_T) : ∀ (n n' d d' m pc : Nat) (ls : List (Nat × Value)) (st : List Value) (w : xj_W) (r : xj_R), n ≤ n' → d ≤ d' → xj_run X n d m pc ls st w = some r → xj_run X n' d' m pc ls st w = some r := by
  intro n
  induction n with
  | zero => intro n' d d' m pc ls st w r _ _ h; simp [xj_run] at h
  | succ n ih =>
    intro n' d d' m pc ls st w r hn hd h
    cases n' with
    | zero => omega
    | succ n' =>
      have hn' : n ≤ n' := by omega
      rw [xj_run_succ] at h ⊢
      unfold xj_lay at h ⊢
      cases hcd : xj_cd X m pc with
      | none => simp [hcd] at h
      | some q =>
        obtain ⟨i, nx⟩ := q
        simp only [hcd] at h ⊢
        cases hs : xj_step X m i nx pc ls st w with
        | some f =>
          obtain ⟨pc', ls', st', w'⟩ := f
          simp only [hs] at h ⊢
          exact ih _ _ _ _ _ _ _ _ _ hn' hd h
        | none =>
          simp only [hs] at h ⊢
          cases hi : xj_inv X m i st w with
          | some f =>
            obtain ⟨kd, y, av, rest⟩ := f
            simp only [hi] at h ⊢
            by_cases hc : d ≠ 0 ∧ xj_safe w.1.length ls rest = true
            · rw [if_pos hc] at h
              rw [if_pos ⟨by omega, hc.2⟩]
              cases hy : xj_run X n (d - 1) y 0 (lv_args 0 av) [] w with
              | none => simp [hy] at h
              | some f =>
                obtain ⟨o, w', c, z⟩ := f
                rw [ih _ _ _ _ _ _ _ _ _ hn' (by omega : d - 1 ≤ d' - 1) hy]
                simp only [hy] at h
                cases o with
                | inl v =>
                  simp only at h ⊢
                  obtain ⟨o, w1, c1, z1, h1, h2⟩ := xj_add_some h
                  rw [ih _ _ _ _ _ _ _ _ _ hn' hd h1, h2]
                  rfl
                | inr q =>
                  simp only at h ⊢
                  cases hca : xj_ca X m pc q with
                  | none => simpa only [hca] using h
                  | some hp =>
                    simp only [hca] at h ⊢
                    obtain ⟨o, w1, c1, z1, h1, h2⟩ := xj_add_some h
                    rw [ih _ _ _ _ _ _ _ _ _ hn' hd h1, h2]
                    rfl
            · rw [if_neg hc] at h
              cases h
          | none =>
            simp only [hi] at h ⊢
            cases he : xj_end X m i st w with
            | some f => simpa only [he] using h
            | none =>
              simp only [he] at h ⊢
              cases ht : xj_th X m pc with
              | some q => simpa only [ht] using h
              | none =>
                simp only [ht] at h ⊢
                cases hk : xj_mk X m i st with
                | none => simp [hk] at h
                | some f =>
                  obtain ⟨sh, z, rest⟩ := f
                  simp only [hk] at h ⊢
                  by_cases hc : xj_safe w.1.length ls rest = true
                  · rw [if_pos hc] at h ⊢
                    obtain ⟨o, w1, c1, z1, h1, h2⟩ := xj_add_some h
                    rw [ih _ _ _ _ _ _ _ _ _ hn' hd h1, h2]
                    rfl
                  · rw [if_neg hc] at h
                    cases h
/-- from this frame our machine comes to an end with P -/
def xj_E (X : xj_T) (d m pc : Nat) (ls : List (Nat × Value)) (st : List Value) (w : xj_W) (P : (Option Value ⊕ Nat) → xj_W → Nat → Nat → Prop) : Prop :=
  ∃ (n : Nat) (o : Option Value ⊕ Nat) (w' : xj_W) (c z : Nat), xj_run X n d m pc ls st w = some (o, w', c, z) ∧ P o w' c z
theorem xj_E.mono {X : xj_T} {d m pc : Nat} {ls : List (Nat × Value)} {st : List Value} {w : xj_W} {P Q : (Option Value ⊕ Nat) → xj_W → Nat → Nat → Prop} (h : xj_E X d m pc ls st w P) (hPQ : ∀ o w c z, P o w c z → Q o w c z) : xj_E X d m pc ls st w Q := by
  obtain ⟨n, o, w', c, z, h1, h2⟩ := h
  exact ⟨n, o, w', c, z, h1, hPQ _ _ _ _ h2⟩
theorem xj_E.deep {X : xj_T} {d d' m pc : Nat} {ls : List (Nat × Value)} {st : List Value} {w : xj_W} {P : (Option Value ⊕ Nat) → xj_W → Nat → Nat → Prop} (h : xj_E X d m pc ls st w P) (hd : d ≤ d') : xj_E X d' m pc ls st w P := by
  obtain ⟨n, o, w', c, z, h1, h2⟩ := h
  exact ⟨n, o, w', c, z, xj_mono X _ _ _ _ _ _ _ _ _ _ (Nat.le_refl _) hd h1, h2⟩
/-- plain steps in a row -/
def xj_adv (X : xj_T) (m : Nat) : Nat → xj_F → Option xj_F
  | 0, f => some f
  | k + 1, (pc, ls, st, w) => match xj_cd X m pc with
    | none => none
    | some (i, nx) => match xj_step X m i nx pc ls st w with
      | some f => xj_adv X m k f
      | none => none
theorem xj_E.one {X : xj_T} {d m pc pc' nx : Nat} {ls ls' : List (Nat × Value)} {st st' : List Value} {w w' : xj_W} {P : (Option Value ⊕ Nat) → xj_W → Nat → Nat → Prop} {i : Instr} (hcd : xj_cd X m pc = some (i, nx)) (hs : xj_step X m i nx pc ls st w = some (pc', ls', st', w')) (h : xj_E X d m pc' ls' st' w' P) : xj_E X d m pc ls st w P := by
  obtain ⟨n, o, w1, c, z, h1, h2⟩ := h
  refine ⟨n + 1, o, w1, c, z, ?_, h2⟩
  rw [xj_run_succ]
  unfold xj_lay
  simp only [hcd, hs]
  exact h1
theorem xj_E.adv {X : xj_T} {d m : Nat} {P : (Option Value ⊕ Nat) → xj_W → Nat → Nat → Prop} : ∀ (k : Nat) {pc pc' : Nat} {ls ls' : List (Nat × Value)} {st st' : List Value} {w w' : xj_W}, xj_adv X m k (pc, ls, st, w) = some (pc', ls', st', w') → xj_E X d m pc' ls' st' w' P → xj_E X d m pc ls st w P := by
  intro k
  induction k with
  | zero =>
    intro pc pc' ls ls' st st' w w' h hE
    simp only [xj_adv, Option.some.injEq, Prod.mk.injEq] at h
    obtain ⟨rfl, rfl, rfl, rfl⟩ := h
    exact hE
  | succ k ih =>
    intro pc pc' ls ls' st st' w w' h hE
    simp only [xj_adv] at h
    cases hcd : xj_cd X m pc with
    | none => simp [hcd] at h
    | some q =>
      obtain ⟨i, nx⟩ := q
      simp only [hcd] at h
      cases hs : xj_step X m i nx pc ls st w with
      | none => simp [hs] at h
      | some f =>
        obtain ⟨pc1, ls1, st1, w1⟩ := f
        simp only [hs] at h
        exact xj_E.one hcd hs (ih h hE)
theorem xj_E.ite {X : xj_T} {d m a b : Nat} {ls : List (Nat × Value)} {st : List Value} {w : xj_W} {P : (Option Value ⊕ Nat) → xj_W → Nat → Nat → Prop} {c : Prop} [Decidable c] (ht : c → xj_E X d m a ls st w P) (hf : ¬ c → xj_E X d m b ls st w P) : xj_E X d m (if c then a else b) ls st w P := by
  by_cases h : c
  · rw [if_pos h]; exact ht h
  · rw [if_neg h]; exact hf h
theorem xj_E.ret {X : xj_T} {d m pc nx : Nat} {ls : List (Nat × Value)} {st : List Value} {w w' : xj_W} {P : (Option Value ⊕ Nat) → xj_W → Nat → Nat → Prop} {i : Instr} {o : Option Value ⊕ Nat} {c z : Nat} (hcd : xj_cd X m pc = some (i, nx)) (hs : xj_step X m i nx pc ls st w = none) (hi : xj_inv X m i st w = none) (he : xj_end X m i st w = some (o, w', c, z)) (h : P o w' c z) : xj_E X d m pc ls st w P := by
  refine ⟨1, o, w', c, z, ?_, h⟩
  rw [xj_run_succ]
  unfold xj_lay
  simp only [hcd, hs, hi, he]
theorem xj_E.thr {X : xj_T} {d m pc nx : Nat} {ls : List (Nat × Value)} {w : xj_W} {P : (Option Value ⊕ Nat) → xj_W → Nat → Nat → Prop} {i : Instr} {q : Nat} (hcd : xj_cd X m pc = some (i, nx)) (hs : xj_step X m i nx pc ls [] w = none) (hi : xj_inv X m i [] w = none) (he : xj_end X m i [] w = none) (ht : xj_th X m pc = some q) (h : P (.inr q) w 1 6) : xj_E X d m pc ls [] w P := by
  refine ⟨1, .inr q, w, 1, 6, ?_, h⟩
  rw [xj_run_succ]
  unfold xj_lay
  simp only [hcd, hs, hi, he, ht, List.isEmpty_nil, if_true]
theorem xj_E.call {X : xj_T} {d m pc nx kd y : Nat} {ls : List (Nat × Value)} {st av rest : List Value} {w : xj_W} {P : (Option Value ⊕ Nat) → xj_W → Nat → Nat → Prop} {i : Instr} (hcd : xj_cd X m pc = some (i, nx)) (hs : xj_step X m i nx pc ls st w = none) (hi : xj_inv X m i st w = some (kd, y, av, rest)) (hsf : xj_safe w.1.length ls rest = true)
    (h : xj_E X d y 0 (lv_args 0 av) [] w (fun o w' c z => match o with
      | .inl v => xj_E X (d + 1) m nx ls (v.toList ++ rest) w' (fun o2 w2 c2 z2 => P o2 w2 (c + c2) (z + z2))
      | .inr q => match xj_ca X m pc q with
        | some hp => xj_E X (d + 1) m hp ls [.ref 4096] w' (fun o2 w2 c2 z2 => P o2 w2 (c + c2) (z + z2))
        | none => P (.inr q) w' c z)) : xj_E X (d + 1) m pc ls st w P := by
  obtain ⟨n, o, w1, c, z, h1, h2⟩ := h
  cases o with
  | inl v =>
    obtain ⟨n2, o2, w2, c2, z2, h3, h4⟩ := h2
    refine ⟨max n n2 + 1, o2, w2, c + c2, z + z2, ?_, h4⟩
    rw [xj_run_succ]
    unfold xj_lay
    simp only [hcd, hs, hi]
    rw [if_pos ⟨by omega, hsf⟩]
    have e1 := xj_mono X _ (max n n2) _ (d + 1 - 1) _ _ _ _ _ _ (Nat.le_max_left _ _) (Nat.le_refl d) h1
    have e2 := xj_mono X _ (max n n2) _ (d + 1) _ _ _ _ _ _ (Nat.le_max_right _ _) (Nat.le_refl _) h3
    simp only [e1, e2, xj_add]
  | inr q =>
    simp only at h2
    cases hca : xj_ca X m pc q with
    | none =>
      simp only [hca] at h2
      refine ⟨n + 1, .inr q, w1, c, z, ?_, h2⟩
      rw [xj_run_succ]
      unfold xj_lay
      simp only [hcd, hs, hi]
      rw [if_pos ⟨by omega, hsf⟩]
      have e1 := xj_mono X _ n _ (d + 1 - 1) _ _ _ _ _ _ (Nat.le_refl _) (Nat.le_refl d) h1
      simp only [e1, hca]
    | some hp =>
      simp only [hca] at h2
      obtain ⟨n2, o2, w2, c2, z2, h3, h4⟩ := h2
      refine ⟨max n n2 + 1, o2, w2, c + c2, z + z2, ?_, h4⟩
      rw [xj_run_succ]
      unfold xj_lay
      simp only [hcd, hs, hi]
      rw [if_pos ⟨by omega, hsf⟩]
      have e1 := xj_mono X _ (max n n2) _ (d + 1 - 1) _ _ _ _ _ _ (Nat.le_max_left _ _) (Nat.le_refl d) h1
      have e2 := xj_mono X _ (max n n2) _ (d + 1) _ _ _ _ _ _ (Nat.le_max_right _ _) (Nat.le_refl _) h3
      simp only [e1, hca, e2, xj_add]
end
section
/-! What our machine's frames stand for, and that its plain steps are the model's. -/
def xj_cv (ad : Nat → Nat) : Value → Value
  | .ref a => .ref (ad a)
  | v => v
theorem xj_cv_cat (ad : Nat → Nat) (v : Value) : (xj_cv ad v).category = v.category := by cases v <;> rfl
def xj_cl (ad : Nat → Nat) (ls : List (Nat × Value)) : List (Nat × Value) := ls.map fun q => (q.1, xj_cv ad q.2)
/-- a field's value -/
def xj_fv (ad : Nat → Nat) (σ : Nat → Int32) (k : Nat) : Value → Value
  | .int _ => .int (σ k)
  | v => xj_cv ad v
def xj_cell (ad : Nat → Nat) (cA : FieldType → ClassId) (σ : Nat → Int32) (τ : Nat → Int64) : xj_S → va_E
  | .inl (.long, n) => .inl (cA .long, n, .inr (.inl τ))
  | .inl (ty, n) => .inl (cA ty, n, .inl σ)
  | .inr (ci, fs) => .inr (ci, fs.mapIdx (xj_fv ad σ))
def xj_cw (ad : Nat → Nat) (cA : FieldType → ClassId) (w : xj_W) : va_W := w.1.mapIdx fun c sh => (ad c, xj_cell ad cA (w.2.1 c) (w.2.2 c) sh)
theorem xj_cw_at {ad : Nat → Nat} {cA : FieldType → ClassId} {w : xj_W} {c : Nat} {sh : xj_S} (h : w.1[c]? = some sh) : (xj_cw ad cA w)[c]? = some (ad c, xj_cell ad cA (w.2.1 c) (w.2.2 c) sh) := by
  simp [xj_cw, List.getElem?_mapIdx, h]
/-- one cell's numbers change -/
theorem xj_cw_set {ad : Nat → Nat} {cA : FieldType → ClassId} {S S' : List xj_S} {σ σ' : Nat → Nat → Int32} {τ τ' : Nat → Nat → Int64} {c : Nat} {sh : xj_S} (hS : S' = S.set c sh) (h1 : ∀ j, j ≠ c → σ' j = σ j) (h2 : ∀ j, j ≠ c → τ' j = τ j) {e : va_E} (he : xj_cell ad cA (σ' c) (τ' c) sh = e) :
    xj_cw ad cA (S', σ', τ') = (xj_cw ad cA (S, σ, τ)).set c (ad c, e) := by
  subst hS
  subst he
  apply List.ext_getElem?
  intro j
  simp only [xj_cw, List.getElem?_mapIdx, List.getElem?_set, List.length_mapIdx]
  by_cases hj : c = j
  · subst hj
    by_cases hl : c < S.length
    · simp [hl]
    · simp [hl]
  · simp only [if_neg hj]
    cases hs : S[j]? with
    | none => rfl
    | some q => simp [h1 j (fun q => hj q.symm), h2 j (fun q => hj q.symm)]
theorem xj_set_same (σ : Nat → Nat → Int32) (c k : Nat) (x : Int32) : xj_set σ c k x c = upd (σ c) k x := by simp [xj_set]
theorem xj_set_ne (σ : Nat → Nat → Int32) {c j : Nat} (k : Nat) (x : Int32) (h : j ≠ c) : xj_set σ c k x j = σ j := by simp [xj_set, h]
theorem xj_setL_same (σ : Nat → Nat → Int64) (c k : Nat) (x : Int64) : xj_setL σ c k x c = vp_updL (σ c) k x := by simp [xj_setL]
theorem xj_setL_ne (σ : Nat → Nat → Int64) {c j : Nat} (k : Nat) (x : Int64) (h : j ≠ c) : xj_setL σ c k x j = σ j := by simp [xj_setL, h]
theorem xj_setA_same (σ : Nat → Nat → Int32) (c : Nat) (f : Nat → Int32) : xj_setA σ c f c = f := by simp [xj_setA]
theorem xj_setA_ne (σ : Nat → Nat → Int32) {c j : Nat} (f : Nat → Int32) (h : j ≠ c) : xj_setA σ c f j = σ j := by simp [xj_setA, h]
theorem xj_self {S : List xj_S} {c : Nat} {sh : xj_S} (h : S[c]? = some sh) : S = S.set c sh := by
  apply List.ext_getElem?
  intro j
  rw [List.getElem?_set]
  by_cases hj : c = j
  · subst hj
    obtain ⟨hl, he⟩ := List.getElem?_eq_some_iff.mp h
    rw [if_pos rfl, if_pos hl, h]
  · rw [if_neg hj]
theorem xj_mem {k : Nat} {v : Value} : ∀ {ls : List (Nat × Value)}, ls.lookup k = some v → (k, v) ∈ ls
  | [], h => by simp at h
  | (a, b) :: r, h => by
    rw [List.lookup_cons] at h
    by_cases hk : (k == a) = true
    · simp only [hk] at h
      have e : k = a := by simpa using hk
      cases h
      subst e
      exact List.mem_cons_self
    · have e : (k == a) = false := by simpa using hk
      simp only [e] at h
      exact List.mem_cons_of_mem _ (xj_mem h)
theorem xj_lk {ad : Nat → Nat} {la : Array Slot} {nL k : Nat} {ls : List (Nat × Value)} {v : Value} (hl : lv_has la nL (xj_cl ad ls)) (h : ls.lookup k = some v) : la[k]? = some (.val (xj_cv ad v)) :=
  hl.2.2 (k, xj_cv ad v) (List.mem_map.mpr ⟨(k, v), xj_mem h, rfl⟩)
theorem xj_cl_st1 (ad : Nat → Nat) (ls : List (Nat × Value)) (i : Nat) (v : Value) : (i, xj_cv ad v) :: (xj_cl ad ls).filter (fun q => !(q.1 == i) && !(q.1 + 1 == i && q.2.category == 2)) = xj_cl ad (xj_st1 ls i v) := by
  simp only [xj_cl, xj_st1, List.map_cons, List.filter_map]
  congr 1
  congr 1
  apply List.filter_congr
  intro q _
  simp only [Function.comp, xj_cv_cat]
def xj_len : Instr → Nat
  | .iconst _ | .iload_n _ | .aload_n _ | .istore_n _ | .astore_n _ => 1
  | .bipush _ | .iload _ | .aload _ | .istore _ | .astore _ | .newarray _ | .ldc _ => 2
  | .sipush _ | .iinc _ _ | .getfield _ | .putfield _ | .getstatic _ | .invokestatic _ | .invokevirtual _ | .invokespecial _ | .new _ => 3
  | _ => 1
/-- length and next place of an instruction, and the local that it stores into -/
def xj_fit (nL : Nat) (i : Instr) (pc nx len : Nat) : Bool :=
  match i with
  | .ifCond _ off => decide ((pc : Int) + off = (nx : Int)) && decide (len = 3)
  | .if_icmp _ off => decide ((pc : Int) + off = (nx : Int)) && decide (len = 3)
  | .goto off => decide ((pc : Int) + off = (nx : Int)) && decide (len = 3)
  | .tableswitch _ _ _ _ => true
  | .lookupswitch _ _ => true
  | .istore k => decide (nx = pc + 2) && decide (len = 2) && decide (k < nL)
  | .istore_n k => decide (nx = pc + 1) && decide (len = 1) && decide (k.val < nL)
  | .astore k => decide (nx = pc + 2) && decide (len = 2) && decide (k < nL)
  | .astore_n k => decide (nx = pc + 1) && decide (len = 1) && decide (k.val < nL)
  | .iinc k _ => decide (nx = pc + 3) && decide (len = 3) && decide (k < nL)
  | i => decide (nx = pc + xj_len i) && decide (len = xj_len i)
def xj_dec (cc : ByteArray) (nL pc : Nat) (i : Instr) (nx : Nat) : Prop := ∃ len, decode cc pc = .ok (i, len) ∧ xj_fit nL i pc nx len = true
section XJ1
variable {p : Program} {l : Launch} {e : Env} {R : Room} {s : State} {m : MethodId} {args : Array Value} {below : List Frame} {meth : Method} {c : Code} {cells slots : Nat} {Q : State → Prop}
variable {D : va_G} {cl : List vw_C} {cA : FieldType → ClassId} {A : Nat → Prop} {nL : Nat} {ad : Nat → Nat} {cc : ByteArray}
variable {i : Instr} {nx pc pc' : Nat} {ls ls' : List (Nat × Value)} {st st' : List Value} {w w' : xj_W}
/-- from this frame of ours, wherever its cells lie, the model comes to Q -/
def xj_Go (p : Program) (l : Launch) (e : Env) (R : Room) (s : State) (m : MethodId) (args : Array Value) (below : List Frame) (meth : Method) (c : Code) (cells slots : Nat) (Q : State → Prop) (D : va_G) (cl : List vw_C) (cA : FieldType → ClassId) (A : Nat → Prop) (nL : Nat) (ad : Nat → Nat) (pc : Nat) (ls : List (Nat × Value)) (st : List Value) (w : xj_W) : Prop :=
  ∀ (H : Heap) (locs : List Loc) (la : Array Slot), lv_has la nL (xj_cl ad ls) → va_P D cl (xj_cw ad cA w) H → va_D A (xj_cw ad cA w) → va_S A s.heap H locs → W p l e R s m args below meth c H locs cells slots Q (F0 m pc la (st.map (xj_cv ad)))
theorem xj_snA (hx : p.tables.exec = Jvm.exec) (hb : c.code = cc) (h : xj_sA i nx ls st w = some (pc', ls', st', w')) (hd : xj_dec cc nL pc i nx) (k : xj_Go p l e R s m args below meth c cells slots Q D cl cA A nL ad pc' ls' st' w') : xj_Go p l e R s m args below meth c cells slots Q D cl cA A nL ad pc ls st w := by
  unfold xj_sA at h
  split at h
  · rename_i v hv
    simp only [Option.some.injEq, Prod.mk.injEq] at h
    obtain ⟨rfl, rfl, rfl, rfl⟩ := h
    obtain ⟨len, hdec, hfit⟩ := hd
    intro H locs la hl hP hD hS
    have kk := k H locs la hl hP hD hS
    unfold xj_const at hv
    split at hv
    · cases hv
      simp only [xj_fit, Bool.and_eq_true, decide_eq_true_eq] at hfit
      obtain ⟨rfl, rfl⟩ := hfit
      exact lv_iconst hx hb hdec rfl kk
    · cases hv
      simp only [xj_fit, Bool.and_eq_true, decide_eq_true_eq] at hfit
      obtain ⟨rfl, rfl⟩ := hfit
      exact lv_bipush hx hb hdec rfl kk
    · cases hv
      simp only [xj_fit, Bool.and_eq_true, decide_eq_true_eq] at hfit
      obtain ⟨rfl, rfl⟩ := hfit
      exact lv_sipush hx hb hdec rfl kk
    · cases hv
  · cases h
theorem xj_snB (hx : p.tables.exec = Jvm.exec) (hb : c.code = cc) (h : xj_sB i nx ls st w = some (pc', ls', st', w')) (hd : xj_dec cc nL pc i nx) (k : xj_Go p l e R s m args below meth c cells slots Q D cl cA A nL ad pc' ls' st' w') : xj_Go p l e R s m args below meth c cells slots Q D cl cA A nL ad pc ls st w := by
  unfold xj_sB at h
  split at h
  · rename_i b j hv
    split at h
    · rename_i v hlk
      split at h
      · rename_i hso
        simp only [Option.some.injEq, Prod.mk.injEq] at h
        obtain ⟨rfl, rfl, rfl, rfl⟩ := h
        obtain ⟨len, hdec, hfit⟩ := hd
        intro H locs la hl hP hD hS
        have kk := k H locs la hl hP hD hS
        have hla := xj_lk hl hlk
        unfold xj_load at hv
        split at hv <;> cases hv
        · cases v <;> simp only [xj_sort, Bool.false_eq_true] at hso
          simp only [xj_fit, Bool.and_eq_true, decide_eq_true_eq] at hfit
          obtain ⟨rfl, rfl⟩ := hfit
          exact lv_iload hx hb hdec hla kk
        · cases v <;> simp only [xj_sort, Bool.false_eq_true] at hso
          simp only [xj_fit, Bool.and_eq_true, decide_eq_true_eq] at hfit
          obtain ⟨rfl, rfl⟩ := hfit
          exact lv_iload_n hx hb hdec rfl hla kk
        · cases v <;> simp only [xj_sort, Bool.false_eq_true] at hso
          simp only [xj_fit, Bool.and_eq_true, decide_eq_true_eq] at hfit
          obtain ⟨rfl, rfl⟩ := hfit
          exact lv_aload hx hb hdec hla kk
        · cases v <;> simp only [xj_sort, Bool.false_eq_true] at hso
          simp only [xj_fit, Bool.and_eq_true, decide_eq_true_eq] at hfit
          obtain ⟨rfl, rfl⟩ := hfit
          exact lv_aload_n hx hb hdec rfl hla kk
      · cases h
    · cases h
  · cases h
theorem xj_snC (hx : p.tables.exec = Jvm.exec) (hb : c.code = cc) (h : xj_sC i nx ls st w = some (pc', ls', st', w')) (hd : xj_dec cc nL pc i nx) (k : xj_Go p l e R s m args below meth c cells slots Q D cl cA A nL ad pc' ls' st' w') : xj_Go p l e R s m args below meth c cells slots Q D cl cA A nL ad pc ls st w := by
  unfold xj_sC at h
  split at h
  · rename_i b j v r hv
    split at h
    · rename_i hso
      simp only [Option.some.injEq, Prod.mk.injEq] at h
      obtain ⟨rfl, rfl, rfl, rfl⟩ := h
      obtain ⟨len, hdec, hfit⟩ := hd
      intro H locs la hl hP hD hS
      unfold xj_store at hv
      split at hv <;> cases hv
      · cases v <;> simp only [xj_sort, Bool.false_eq_true] at hso
        simp only [xj_fit, Bool.and_eq_true, decide_eq_true_eq] at hfit
        obtain ⟨⟨rfl, rfl⟩, hn⟩ := hfit
        exact lv_istore hx hb hdec hl hn rfl (fun la' hl' => k H locs la' (by rw [← xj_cl_st1]; exact hl') hP hD hS)
      · cases v <;> simp only [xj_sort, Bool.false_eq_true] at hso
        simp only [xj_fit, Bool.and_eq_true, decide_eq_true_eq] at hfit
        obtain ⟨⟨rfl, rfl⟩, hn⟩ := hfit
        exact lv_istore_n hx hb hdec rfl hl hn rfl (fun la' hl' => k H locs la' (by rw [← xj_cl_st1]; exact hl') hP hD hS)
      · cases v <;> simp only [xj_sort, Bool.false_eq_true] at hso
        simp only [xj_fit, Bool.and_eq_true, decide_eq_true_eq] at hfit
        obtain ⟨⟨rfl, rfl⟩, hn⟩ := hfit
        exact lv_astore hx hb hdec hl hn rfl (fun la' hl' => k H locs la' (by rw [← xj_cl_st1]; exact hl') hP hD hS)
      · cases v <;> simp only [xj_sort, Bool.false_eq_true] at hso
        simp only [xj_fit, Bool.and_eq_true, decide_eq_true_eq] at hfit
        obtain ⟨⟨rfl, rfl⟩, hn⟩ := hfit
        exact lv_astore_n hx hb hdec rfl hl hn rfl (fun la' hl' => k H locs la' (by rw [← xj_cl_st1]; exact hl') hP hD hS)
    · cases h
  · cases h
theorem xj_snD (hx : p.tables.exec = Jvm.exec) (hb : c.code = cc) (h : xj_sD i nx ls st w = some (pc', ls', st', w')) (hd : xj_dec cc nL pc i nx) (k : xj_Go p l e R s m args below meth c cells slots Q D cl cA A nL ad pc' ls' st' w') : xj_Go p l e R s m args below meth c cells slots Q D cl cA A nL ad pc ls st w := by
  unfold xj_sD at h
  split at h
  · rename_i j z
    split at h
    · rename_i x hlk
      simp only [Option.some.injEq, Prod.mk.injEq] at h
      obtain ⟨rfl, rfl, rfl, rfl⟩ := h
      obtain ⟨len, hdec, hfit⟩ := hd
      intro H locs la hl hP hD hS
      simp only [xj_fit, Bool.and_eq_true, decide_eq_true_eq] at hfit
      obtain ⟨⟨rfl, rfl⟩, hn⟩ := hfit
      have hm : (j, Value.int x) ∈ xj_cl ad ls := List.mem_map.mpr ⟨(j, .int x), xj_mem hlk, rfl⟩
      obtain ⟨q, hq⟩ := List.mem_iff_getElem?.mp hm
      exact lv_iinc hx hb hdec hl hq rfl hn rfl (fun la' hl' => k H locs la' (by rw [← xj_cl_st1]; exact hl') hP hD hS)
    · cases h
  · cases h
theorem xj_snE (hx : p.tables.exec = Jvm.exec) (hb : c.code = cc) (h : xj_sE i nx ls st w = some (pc', ls', st', w')) (hd : xj_dec cc nL pc i nx) (k : xj_Go p l e R s m args below meth c cells slots Q D cl cA A nL ad pc' ls' st' w') : xj_Go p l e R s m args below meth c cells slots Q D cl cA A nL ad pc ls st w := by
  unfold xj_sE at h
  split at h
  · rename_i y x r
    split at h
    · rename_i v hv
      simp only [Option.some.injEq, Prod.mk.injEq] at h
      obtain ⟨rfl, rfl, rfl, rfl⟩ := h
      obtain ⟨len, hdec, hfit⟩ := hd
      intro H locs la hl hP hD hS
      have kk := k H locs la hl hP hD hS
      unfold xj_op2 at hv
      split at hv
      case h_9 =>
        split at hv
        · cases hv
        · rename_i hne
          cases hv
          simp only [xj_fit, Bool.and_eq_true, decide_eq_true_eq] at hfit
          obtain ⟨rfl, rfl⟩ := hfit
          exact lv_irem hx hb hdec hne kk
      case h_10 =>
        split at hv
        · cases hv
        · rename_i hne
          cases hv
          simp only [xj_fit, Bool.and_eq_true, decide_eq_true_eq] at hfit
          obtain ⟨rfl, rfl⟩ := hfit
          exact lv_idiv hx hb hdec hne kk
      all_goals cases hv
      all_goals
        simp only [xj_fit, Bool.and_eq_true, decide_eq_true_eq] at hfit
        obtain ⟨rfl, rfl⟩ := hfit
        first
          | exact lv_iadd hx hb hdec kk
          | exact lv_isub hx hb hdec kk
          | exact lv_imul hx hb hdec kk
          | exact lv_iand hx hb hdec kk
          | exact lv_ior hx hb hdec kk
          | exact lv_ixor hx hb hdec kk
          | exact lv_ishl hx hb hdec kk
          | exact lv_ishr hx hb hdec kk
    · cases h
  · cases h
theorem xj_snF (hx : p.tables.exec = Jvm.exec) (hb : c.code = cc) (h : xj_sF i nx ls st w = some (pc', ls', st', w')) (hd : xj_dec cc nL pc i nx) (k : xj_Go p l e R s m args below meth c cells slots Q D cl cA A nL ad pc' ls' st' w') : xj_Go p l e R s m args below meth c cells slots Q D cl cA A nL ad pc ls st w := by
  unfold xj_sF at h
  split at h
  · rename_i st1 hv
    simp only [Option.some.injEq, Prod.mk.injEq] at h
    obtain ⟨rfl, rfl, rfl, rfl⟩ := h
    obtain ⟨len, hdec, hfit⟩ := hd
    intro H locs la hl hP hD hS
    have kk := k H locs la hl hP hD hS
    unfold xj_stk at hv
    split at hv <;> first | cases hv | (split at hv <;> cases hv)
    all_goals
      rename_i hc
      simp only [xj_fit, Bool.and_eq_true, decide_eq_true_eq] at hfit
      obtain ⟨rfl, rfl⟩ := hfit
      first
        | exact lv_dup hx hb hdec (by rw [xj_cv_cat]; exact hc) kk
        | exact lv_pop hx hb hdec (by rw [xj_cv_cat]; exact hc) kk
        | exact lv_dup_x1 hx hb hdec (by rw [xj_cv_cat]; exact hc.1) (by rw [xj_cv_cat]; exact hc.2) kk
        | exact lv_dup_x2 hx hb hdec (by rw [xj_cv_cat]; exact hc.1) (by rw [xj_cv_cat]; exact hc.2.1) (by rw [xj_cv_cat]; exact hc.2.2) kk
        | exact lv_dup2_11 hx hb hdec (by rw [xj_cv_cat]; exact hc.1) (by rw [xj_cv_cat]; exact hc.2) kk
  · cases h
theorem xj_snG (hx : p.tables.exec = Jvm.exec) (hb : c.code = cc) (h : xj_sG i nx pc ls st w = some (pc', ls', st', w')) (hd : xj_dec cc nL pc i nx) (k : xj_Go p l e R s m args below meth c cells slots Q D cl cA A nL ad pc' ls' st' w') : xj_Go p l e R s m args below meth c cells slots Q D cl cA A nL ad pc ls st w := by
  unfold xj_sG at h
  split at h
  · simp only [Option.some.injEq, Prod.mk.injEq] at h
    obtain ⟨rfl, rfl, rfl, rfl⟩ := h
    obtain ⟨len, hdec, hfit⟩ := hd
    intro H locs la hl hP hD hS
    have kk := k H locs la hl hP hD hS
    simp only [xj_fit, Bool.and_eq_true, decide_eq_true_eq] at hfit
    obtain ⟨ht, rfl⟩ := hfit
    exact lv_goto hx hb hdec ht kk
  · rename_i co off
    split at h
    · rename_i x r
      simp only [Option.some.injEq, Prod.mk.injEq] at h
      obtain ⟨rfl, rfl, rfl, rfl⟩ := h
      obtain ⟨len, hdec, hfit⟩ := hd
      intro H locs la hl hP hD hS
      have kk := k H locs la hl hP hD hS
      simp only [xj_fit, Bool.and_eq_true, decide_eq_true_eq] at hfit
      obtain ⟨ht, rfl⟩ := hfit
      cases co
      · exact lv_if_eq hx hb hdec ht (fun q => by rw [if_pos (by simpa [xj_cmp] using q)] at kk; exact kk) (fun q => by rw [if_neg (by simpa [xj_cmp] using q)] at kk; exact kk)
      · exact lv_if_ne hx hb hdec ht (fun q => by rw [if_pos (by simpa [xj_cmp] using q)] at kk; exact kk) (fun q => by rw [if_neg (by simpa [xj_cmp] using q)] at kk; exact kk)
      · exact lv_if_lt hx hb hdec ht (fun q => by rw [if_pos (by simpa only [xj_cmp, decide_eq_true_eq] using q)] at kk; exact kk) (fun q => by rw [if_neg (by simpa only [xj_cmp, decide_eq_true_eq] using q)] at kk; exact kk)
      · exact lv_if_ge hx hb hdec ht (fun q => by rw [if_pos (by simpa only [xj_cmp, decide_eq_true_eq] using q)] at kk; exact kk) (fun q => by rw [if_neg (by simpa only [xj_cmp, decide_eq_true_eq] using q)] at kk; exact kk)
      · exact lv_if_gt hx hb hdec ht (fun q => by rw [if_pos (by simpa only [xj_cmp, decide_eq_true_eq] using q)] at kk; exact kk) (fun q => by rw [if_neg (by simpa only [xj_cmp, decide_eq_true_eq] using q)] at kk; exact kk)
      · exact lv_if_le hx hb hdec ht (fun q => by rw [if_pos (by simpa only [xj_cmp, decide_eq_true_eq] using q)] at kk; exact kk) (fun q => by rw [if_neg (by simpa only [xj_cmp, decide_eq_true_eq] using q)] at kk; exact kk)
    · cases h
  · rename_i co off
    split at h
    · rename_i y x r
      simp only [Option.some.injEq, Prod.mk.injEq] at h
      obtain ⟨rfl, rfl, rfl, rfl⟩ := h
      obtain ⟨len, hdec, hfit⟩ := hd
      intro H locs la hl hP hD hS
      have kk := k H locs la hl hP hD hS
      simp only [xj_fit, Bool.and_eq_true, decide_eq_true_eq] at hfit
      obtain ⟨ht, rfl⟩ := hfit
      cases co
      · exact lv_icmp_eq hx hb hdec ht (fun q => by rw [if_pos (by simpa [xj_cmp] using q)] at kk; exact kk) (fun q => by rw [if_neg (by simpa [xj_cmp] using q)] at kk; exact kk)
      · exact lv_icmp_ne hx hb hdec ht (fun q => by rw [if_pos (by simpa [xj_cmp] using q)] at kk; exact kk) (fun q => by rw [if_neg (by simpa [xj_cmp] using q)] at kk; exact kk)
      · exact lv_icmp_lt hx hb hdec ht (fun q => by rw [if_pos (by simpa only [xj_cmp, decide_eq_true_eq] using q)] at kk; exact kk) (fun q => by rw [if_neg (by simpa only [xj_cmp, decide_eq_true_eq] using q)] at kk; exact kk)
      · exact lv_icmp_ge hx hb hdec ht (fun q => by rw [if_pos (by simpa only [xj_cmp, decide_eq_true_eq] using q)] at kk; exact kk) (fun q => by rw [if_neg (by simpa only [xj_cmp, decide_eq_true_eq] using q)] at kk; exact kk)
      · exact lv_icmp_gt hx hb hdec ht (fun q => by rw [if_pos (by simpa only [xj_cmp, decide_eq_true_eq] using q)] at kk; exact kk) (fun q => by rw [if_neg (by simpa only [xj_cmp, decide_eq_true_eq] using q)] at kk; exact kk)
      · exact lv_icmp_le hx hb hdec ht (fun q => by rw [if_pos (by simpa only [xj_cmp, decide_eq_true_eq] using q)] at kk; exact kk) (fun q => by rw [if_neg (by simpa only [xj_cmp, decide_eq_true_eq] using q)] at kk; exact kk)
    · cases h
  · cases h
end XJ1
end
section
/-! plain steps that read or write cells -/
theorem xj_fv_set {ad : Nat → Nat} {σ : Nat → Int32} {fs : List Value} {k : Nat} {y x : Int32} (h : fs[k]? = some (.int y)) : fs.mapIdx (xj_fv ad (upd σ k x)) = (fs.mapIdx (xj_fv ad σ)).set k (.int x) := by
  apply List.ext_getElem?
  intro j
  simp only [List.getElem?_mapIdx, List.getElem?_set, List.length_mapIdx]
  by_cases hj : k = j
  · subst hj
    have hl := (List.getElem?_eq_some_iff.mp h).1
    rw [if_pos rfl, if_pos hl, h]
    simp [xj_fv, upd]
  · simp only [if_neg hj]
    cases hs : fs[j]? with
    | none => rfl
    | some q =>
      have hj' : j ≠ k := fun e => hj e.symm
      cases q <;> simp [xj_fv, upd, hj']
theorem xj_fv_ref {ad : Nat → Nat} {σ : Nat → Int32} {fs : List Value} {k a : Nat} : (fs.set k (.ref a)).mapIdx (xj_fv ad σ) = (fs.mapIdx (xj_fv ad σ)).set k (.ref (ad a)) := by
  apply List.ext_getElem?
  intro j
  simp only [List.getElem?_mapIdx, List.getElem?_set, List.length_mapIdx]
  by_cases hj : k = j
  · subst hj
    by_cases hl : k < fs.length
    · simp [hl, xj_fv, xj_cv]
    · simp [hl]
  · simp only [if_neg hj]
abbrev xj_ty (cA : FieldType → ClassId) : List (ClassId × FieldType) := [(cA .int, .int), (cA .boolean, .boolean), (cA .long, .long)]
/-- what the tables say of a field's place -/
def xj_Fl (X : xj_T) (mi : Nat) (own name : String) (s : State) (args : Array Value) (Ts : List Jvm.Cond) (cl : List vw_C) : Prop :=
  ∀ ix ci k so, xj_fl X mi ix = some (ci, k, so) → ∃ (C : String) (T : u_T) (N : Nat) (ty0 : Nat → FieldType), cl[ci]? = some (C, T, N) ∧ (∀ w ∈ u_ws C T N, w ∈ Ts) ∧ (∀ k, k < N → parseFieldDescriptor (T k).2.2.1 = some (ty0 k)) ∧ (∀ a, a < N → ∀ b, b < N → a ≠ b → (T a).2.1 ≠ (T b).2.1) ∧ k < N ∧
    (Jvm.Cond.fieldLink own ix (T k).1 (T k).2.1 (T k).2.2.1).before args s = true ∧
    (so = 0 → ty0 k = .int ∧ (T k).2.2.2 = false) ∧ (so = 1 → ty0 k = .boolean ∧ (T k).2.2.2 = false) ∧ (so = 2 → ((∃ t, ty0 k = .array t) ∨ ∃ n, ty0 k = .object n) ∧ (T k).2.2.2 = true ∧ (T k).1 = own ∧ name = "<init>")
section XJ2
variable {p : Program} {l : Launch} {e : Env} {R : Room} {s : State} {m : MethodId} {args : Array Value} {below : List Frame} {meth : Method} {c : Code} {cells slots : Nat} {Q : State → Prop}
variable {D : va_G} {cl : List vw_C} {cA : FieldType → ClassId} {A : Nat → Prop} {nL : Nat} {ad : Nat → Nat} {cc : ByteArray}
variable {X : xj_T} {mi : Nat} {own : String} {Ts : List Jvm.Cond}
variable {i : Instr} {nx pc pc' : Nat} {ls ls' : List (Nat × Value)} {st st' : List Value} {w w' : xj_W}
theorem xj_to_some {pc t : Nat} {off : Int} (h : xj_to pc off = some t) : (pc : Int) + off = (t : Int) := by
  unfold xj_to at h
  split at h
  · cases h
    rename_i hp
    exact (Int.toNat_of_nonneg hp).symm
  · cases h
theorem xj_snH (hx : p.tables.exec = Jvm.exec) (hb : c.code = cc) (h : xj_sH i pc ls st w = some (pc', ls', st', w')) (hd : xj_dec cc nL pc i nx) (k : xj_Go p l e R s m args below meth c cells slots Q D cl cA A nL ad pc' ls' st' w') : xj_Go p l e R s m args below meth c cells slots Q D cl cA A nL ad pc ls st w := by
  obtain ⟨len, hdec, -⟩ := hd
  intro H locs la hl hP hD hS
  unfold xj_sH at h
  split at h
  · rename_i dflt lo hi offs x r
    split at h
    · rename_i hout
      obtain ⟨t, ht, he⟩ := Option.map_eq_some_iff.mp h
      simp only [Prod.mk.injEq] at he
      obtain ⟨rfl, rfl, rfl, rfl⟩ := he
      exact lv_tableOut hx hb hdec hout (xj_to_some ht) (k H locs la hl hP hD hS)
    · rename_i hin
      split at h
      · rename_i off ho
        obtain ⟨t, ht, he⟩ := Option.map_eq_some_iff.mp h
        simp only [Prod.mk.injEq] at he
        obtain ⟨rfl, rfl, rfl, rfl⟩ := he
        exact lv_tableIn hx hb hdec (fun q => hin (Or.inl q)) (fun q => hin (Or.inr q)) ho (xj_to_some ht) (k H locs la hl hP hD hS)
      · cases h
  · rename_i dflt ps x r
    split at h
    · rename_i hsorted
      obtain ⟨t, ht, he⟩ := Option.map_eq_some_iff.mp h
      simp only [Prod.mk.injEq] at he
      obtain ⟨rfl, rfl, rfl, rfl⟩ := he
      exact lv_lookup hx hb hdec hsorted rfl (xj_to_some ht) (k H locs la hl hP hD hS)
    · cases h
  · cases h
theorem xj_snI (hx : p.tables.exec = Jvm.exec) (hb : c.code = cc) (hK : va_K D cl (xj_ty cA) s) (h : xj_sI i nx ls st w = some (pc', ls', st', w')) (hd : xj_dec cc nL pc i nx) (k : xj_Go p l e R s m args below meth c cells slots Q D cl cA A nL ad pc' ls' st' w') : xj_Go p l e R s m args below meth c cells slots Q D cl cA A nL ad pc ls st w := by
  obtain ⟨len, hdec, hfit⟩ := hd
  intro H locs la hl hP hD hS
  unfold xj_sI at h
  split at h
  · simp only [Option.some.injEq, Prod.mk.injEq] at h
    obtain ⟨rfl, rfl, rfl, rfl⟩ := h
    simp only [xj_fit, Bool.and_eq_true, decide_eq_true_eq] at hfit
    obtain ⟨rfl, rfl⟩ := hfit
    exact lv_i2l hx hb hdec rfl (k H locs la hl hP hD hS)
  · simp only [Option.some.injEq, Prod.mk.injEq] at h
    obtain ⟨rfl, rfl, rfl, rfl⟩ := h
    simp only [xj_fit, Bool.and_eq_true, decide_eq_true_eq] at hfit
    obtain ⟨rfl, rfl⟩ := hfit
    exact W.lcmp hx hb hdec (k H locs la hl hP hD hS)
  · rename_i j a r
    split at h
    · rename_i n hsh
      split at h
      · cases h
      · rename_i hin
        simp only [Option.some.injEq, Prod.mk.injEq] at h
        obtain ⟨rfl, rfl, rfl, rfl⟩ := h
        simp only [xj_fit, Bool.and_eq_true, decide_eq_true_eq] at hfit
        obtain ⟨rfl, rfl⟩ := hfit
        exact va_lald hx hb hK hP a 2 (xj_cw_at hsh) rfl hin hdec (k H locs la hl hP hD hS)
    · cases h
  · rename_i x j a r
    split at h
    · rename_i n hsh
      split at h
      · cases h
      · rename_i hin
        simp only [Option.some.injEq, Prod.mk.injEq] at h
        obtain ⟨rfl, rfl, rfl, rfl⟩ := h
        simp only [xj_fit, Bool.and_eq_true, decide_eq_true_eq] at hfit
        obtain ⟨rfl, rfl⟩ := hfit
        have hcw := xj_cw_set (ad := ad) (cA := cA) (S := w.1) (S' := w.1) (σ := w.2.1) (σ' := w.2.1) (τ := w.2.2) (τ' := xj_setL w.2.2 a j.toNatClampNeg x) (c := a) (xj_self hsh) (fun _ _ => rfl) (fun q hq => xj_setL_ne _ _ _ hq) (e := .inl (cA .long, n, .inr (.inl (vp_updL (w.2.2 a) j.toNatClampNeg x)))) (by rw [xj_setL_same]; rfl)
        refine va_last hx hb hK hP hD hS a 2 (xj_cw_at hsh) rfl hin hdec fun H1 locs1 hP1 hD1 hS1 => ?_
        exact k H1 locs1 la hl (by rw [hcw]; exact hP1) (by rw [hcw]; exact hD1) hS1
    · cases h
  · cases h
theorem xj_snJ (hx : p.tables.exec = Jvm.exec) (hb : c.code = cc) (hts : ∀ w ∈ Ts, w.before args s = true) (hown : s.vm.findClass own = some m.cls) (hK : va_K D cl (xj_ty cA) s) (hF : xj_Fl X mi own meth.name s args Ts cl)
    (hG : ∀ ix a, xj_gs X mi ix = some a → ∀ (H : Heap) (locs : List Loc) (pc : Nat) (la : Array Slot) (rest : List Value), va_S A s.heap H locs → decode cc pc = .ok (.getstatic ix, 3) → W p l e R s m args below meth c H locs cells slots Q (F0 m (pc + 3) la (.ref (ad a) :: rest)) → W p l e R s m args below meth c H locs cells slots Q (F0 m pc la rest))
    (h : xj_sJ X mi i nx ls st w = some (pc', ls', st', w')) (hd : xj_dec cc nL pc i nx) (k : xj_Go p l e R s m args below meth c cells slots Q D cl cA A nL ad pc' ls' st' w') : xj_Go p l e R s m args below meth c cells slots Q D cl cA A nL ad pc ls st w := by
  obtain ⟨len, hdec, hfit⟩ := hd
  intro H locs la hl hP hD hS
  unfold xj_sJ at h
  split at h
  · rename_i ix a r
    split at h
    · rename_i ci kf so cj fs hfl hsh
      split at h
      · rename_i hcj
        subst hcj
        obtain ⟨C, T, N, ty0, q1, q2, q3, q4, q5, q6, -, -, -⟩ := hF _ _ _ _ hfl
        split at h
        · rename_i y hk
          simp only [Option.some.injEq, Prod.mk.injEq] at h
          obtain ⟨rfl, rfl, rfl, rfl⟩ := h
          simp only [xj_fit, Bool.and_eq_true, decide_eq_true_eq] at hfit
          obtain ⟨rfl, rfl⟩ := hfit
          exact va_get hx hb hts q2 hown hK hP a (xj_cw_at hsh) q1 kf q5 q6 (fun _ z => z) (by rw [List.getElem?_mapIdx, hk]; rfl) hdec (k H locs la hl hP hD hS)
        · rename_i b hk
          simp only [Option.some.injEq, Prod.mk.injEq] at h
          obtain ⟨rfl, rfl, rfl, rfl⟩ := h
          simp only [xj_fit, Bool.and_eq_true, decide_eq_true_eq] at hfit
          obtain ⟨rfl, rfl⟩ := hfit
          exact va_get hx hb hts q2 hown hK hP a (xj_cw_at hsh) q1 kf q5 q6 (fun _ z => z) (by rw [List.getElem?_mapIdx, hk]; rfl) hdec (k H locs la hl hP hD hS)
        · cases h
      · cases h
    · cases h
  · rename_i ix x a r
    split at h
    · rename_i ci kf so cj fs hfl hsh
      split at h
      · rename_i hcj
        subst hcj
        obtain ⟨C, T, N, ty0, q1, q2, q3, q4, q5, q6, t0, t1, -⟩ := hF _ _ _ _ hfl
        split at h
        · rename_i y hk
          split at h
          · rename_i hso
            simp only [Option.some.injEq, Prod.mk.injEq] at h
            obtain ⟨rfl, rfl, rfl, rfl⟩ := h
            simp only [xj_fit, Bool.and_eq_true, decide_eq_true_eq] at hfit
            obtain ⟨rfl, rfl⟩ := hfit
            have hcw := xj_cw_set (ad := ad) (cA := cA) (S := w.1) (S' := w.1) (σ := w.2.1) (σ' := xj_set w.2.1 a kf x) (τ := w.2.2) (τ' := w.2.2) (c := a) (xj_self hsh) (fun q hq => xj_set_ne _ _ _ hq) (fun _ _ => rfl) (e := .inr (cj, (fs.mapIdx (xj_fv ad (w.2.1 a))).set kf (.int x))) (by rw [xj_set_same]; show Sum.inr (cj, fs.mapIdx (xj_fv ad (upd (w.2.1 a) kf x))) = _; rw [xj_fv_set hk])
            have hlen : kf < (fs.mapIdx (xj_fv ad (w.2.1 a))).length := by rw [List.length_mapIdx]; exact (List.getElem?_eq_some_iff.mp hk).1
            rcases hso with rfl | ⟨rfl, hx01⟩
            · obtain ⟨ht, hfin⟩ := t0 rfl
              refine va_put hx hb hts q2 ty0 q3 q4 hown hK hP hD hS a (xj_cw_at hsh) q1 kf q5 q6 (fun _ z => z) hfin (ty := .int) (by rw [q3 kf q5, ht]) rfl rfl hlen hdec fun H1 locs1 hP1 hD1 hS1 => ?_
              exact k H1 locs1 la hl (by rw [hcw]; exact hP1) (by rw [hcw]; exact hD1) hS1
            · obtain ⟨ht, hfin⟩ := t1 rfl
              have hn : narrow .boolean (.int x) = .int x ∧ fits .boolean (.int x) = true := by
                rcases hx01 with rfl | rfl
                · exact ⟨rfl, rfl⟩
                · exact ⟨rfl, rfl⟩
              refine va_put hx hb hts q2 ty0 q3 q4 hown hK hP hD hS a (xj_cw_at hsh) q1 kf q5 q6 (fun _ z => z) hfin (ty := .boolean) (by rw [q3 kf q5, ht]) hn.1 hn.2 hlen hdec fun H1 locs1 hP1 hD1 hS1 => ?_
              exact k H1 locs1 la hl (by rw [hcw]; exact hP1) (by rw [hcw]; exact hD1) hS1
          · cases h
        · cases h
      · cases h
    · cases h
  · rename_i ix b a r
    split at h
    · rename_i ci kf so cj fs hfl hsh
      split at h
      · rename_i hcj
        subst hcj
        obtain ⟨C, T, N, ty0, q1, q2, q3, q4, q5, q6, -, -, t2⟩ := hF _ _ _ _ hfl
        split at h
        · rename_i hk
          split at h
          · rename_i hso
            simp only [Option.some.injEq, Prod.mk.injEq] at h
            obtain ⟨rfl, rfl, rfl, rfl⟩ := h
            simp only [xj_fit, Bool.and_eq_true, decide_eq_true_eq] at hfit
            obtain ⟨rfl, rfl⟩ := hfit
            obtain ⟨ht, hfin, hdecl, hini⟩ := t2 hso
            have hcw := xj_cw_set (ad := ad) (cA := cA) (S := w.1) (S' := w.1.set a (.inr (cj, fs.set kf (.ref b)))) (σ := w.2.1) (σ' := w.2.1) (τ := w.2.2) (τ' := w.2.2) (c := a) rfl (fun _ _ => rfl) (fun _ _ => rfl) (e := .inr (cj, (fs.mapIdx (xj_fv ad (w.2.1 a))).set kf (.ref (ad b)))) (by show Sum.inr (cj, (fs.set kf (.ref b)).mapIdx (xj_fv ad (w.2.1 a))) = _; rw [xj_fv_ref])
            have hlen : kf < (fs.mapIdx (xj_fv ad (w.2.1 a))).length := by rw [List.length_mapIdx]; exact (List.getElem?_eq_some_iff.mp hk).1
            have hn : narrow (ty0 kf) (.ref (ad b)) = .ref (ad b) ∧ fits (ty0 kf) (.ref (ad b)) = true := by
              rcases ht with ⟨t, ht⟩ | ⟨n, ht⟩
              · rw [ht]; exact ⟨rfl, rfl⟩
              · rw [ht]; exact ⟨rfl, rfl⟩
            refine va_putF hx hb hts q2 ty0 q3 q4 hown hK hP hD hS a (xj_cw_at hsh) q1 kf q5 q6 (fun _ z => z) hfin hini hdecl (q3 kf q5) hn.1 hn.2 hlen hdec fun H1 locs1 hP1 hD1 hS1 => ?_
            exact k H1 locs1 la hl (by rw [hcw]; exact hP1) (by rw [hcw]; exact hD1) hS1
          · cases h
        · cases h
      · cases h
    · cases h
  · rename_i ix
    split at h
    · rename_i a hgs
      simp only [Option.some.injEq, Prod.mk.injEq] at h
      obtain ⟨rfl, rfl, rfl, rfl⟩ := h
      simp only [xj_fit, Bool.and_eq_true, decide_eq_true_eq] at hfit
      obtain ⟨rfl, rfl⟩ := hfit
      exact hG _ _ hgs H locs pc la _ hS hdec (k H locs la hl hP hD hS)
    · cases h
  · cases h
theorem xj_snL (hx : p.tables.exec = Jvm.exec) (hb : c.code = cc) (hK : va_K D cl (xj_ty cA) s) (hV : ∀ a n f, xj_gv X a = some (n, f) → va_T .int (ad a) n (fun j => .int (f j)) A s s.heap)
    (h : xj_sL X i nx ls st w = some (pc', ls', st', w')) (hd : xj_dec cc nL pc i nx) (k : xj_Go p l e R s m args below meth c cells slots Q D cl cA A nL ad pc' ls' st' w') : xj_Go p l e R s m args below meth c cells slots Q D cl cA A nL ad pc ls st w := by
  obtain ⟨len, hdec, hfit⟩ := hd
  intro H locs la hl hP hD hS
  unfold xj_sL at h
  split at h
  · rename_i j a r
    split at h
    · rename_i n hsh
      split at h
      · cases h
      · rename_i hin
        simp only [Option.some.injEq, Prod.mk.injEq] at h
        obtain ⟨rfl, rfl, rfl, rfl⟩ := h
        simp only [xj_fit, Bool.and_eq_true, decide_eq_true_eq] at hfit
        obtain ⟨rfl, rfl⟩ := hfit
        exact va_iald hx hb hK hP a 0 (xj_cw_at hsh) rfl hin hdec (k H locs la hl hP hD hS)
    · cases h
    · split at h
      · rename_i n f hgv
        split at h
        · cases h
        · rename_i hin
          simp only [Option.some.injEq, Prod.mk.injEq] at h
          obtain ⟨rfl, rfl, rfl, rfl⟩ := h
          simp only [xj_fit, Bool.and_eq_true, decide_eq_true_eq] at hfit
          obtain ⟨rfl, rfl⟩ := hfit
          exact va_ti hx hb (hV _ _ _ hgv) hS hin rfl hdec (k H locs la hl hP hD hS)
      · cases h
  · rename_i j a r
    split at h
    · rename_i n hsh
      split at h
      · cases h
      · rename_i hin
        simp only [Option.some.injEq, Prod.mk.injEq] at h
        obtain ⟨rfl, rfl, rfl, rfl⟩ := h
        simp only [xj_fit, Bool.and_eq_true, decide_eq_true_eq] at hfit
        obtain ⟨rfl, rfl⟩ := hfit
        exact va_zald hx hb hK hP a 1 (xj_cw_at hsh) rfl hin hdec (k H locs la hl hP hD hS)
    · cases h
  · rename_i x j a r
    split at h
    · rename_i n hsh
      split at h
      · cases h
      · rename_i hin
        simp only [Option.some.injEq, Prod.mk.injEq] at h
        obtain ⟨rfl, rfl, rfl, rfl⟩ := h
        simp only [xj_fit, Bool.and_eq_true, decide_eq_true_eq] at hfit
        obtain ⟨rfl, rfl⟩ := hfit
        have hcw := xj_cw_set (ad := ad) (cA := cA) (S := w.1) (S' := w.1) (σ := w.2.1) (σ' := xj_set w.2.1 a j.toNatClampNeg x) (τ := w.2.2) (τ' := w.2.2) (c := a) (xj_self hsh) (fun q hq => xj_set_ne _ _ _ hq) (fun _ _ => rfl) (e := .inl (cA .int, n, .inl (upd (w.2.1 a) j.toNatClampNeg x))) (by rw [xj_set_same]; rfl)
        refine va_iast hx hb hK hP hD hS a 0 (xj_cw_at hsh) rfl hin hdec fun H1 locs1 hP1 hD1 hS1 => ?_
        exact k H1 locs1 la hl (by rw [hcw]; exact hP1) (by rw [hcw]; exact hD1) hS1
    · cases h
  · rename_i x j a r
    split at h
    · rename_i n hsh
      split at h
      · cases h
      · rename_i hin
        simp only [Option.some.injEq, Prod.mk.injEq] at h
        obtain ⟨rfl, rfl, rfl, rfl⟩ := h
        simp only [xj_fit, Bool.and_eq_true, decide_eq_true_eq] at hfit
        obtain ⟨rfl, rfl⟩ := hfit
        have hcw := xj_cw_set (ad := ad) (cA := cA) (S := w.1) (S' := w.1) (σ := w.2.1) (σ' := xj_set w.2.1 a j.toNatClampNeg (x &&& 1)) (τ := w.2.2) (τ' := w.2.2) (c := a) (xj_self hsh) (fun q hq => xj_set_ne _ _ _ hq) (fun _ _ => rfl) (e := .inl (cA .boolean, n, .inl (upd (w.2.1 a) j.toNatClampNeg (x &&& 1)))) (by rw [xj_set_same]; rfl)
        refine va_zast hx hb hK hP hD hS a 1 (xj_cw_at hsh) rfl hin hdec fun H1 locs1 hP1 hD1 hS1 => ?_
        exact k H1 locs1 la hl (by rw [hcw]; exact hP1) (by rw [hcw]; exact hD1) hS1
    · cases h
  · rename_i a r
    split at h
    · rename_i n hsh
      simp only [Option.some.injEq, Prod.mk.injEq] at h
      obtain ⟨rfl, rfl, rfl, rfl⟩ := h
      simp only [xj_fit, Bool.and_eq_true, decide_eq_true_eq] at hfit
      obtain ⟨rfl, rfl⟩ := hfit
      exact va_alen hx hb hK hP a 0 (xj_cw_at hsh) (ty := .int) rfl rfl hdec (k H locs la hl hP hD hS)
    · cases h
    · split at h
      · rename_i n f hgv
        simp only [Option.some.injEq, Prod.mk.injEq] at h
        obtain ⟨rfl, rfl, rfl, rfl⟩ := h
        simp only [xj_fit, Bool.and_eq_true, decide_eq_true_eq] at hfit
        obtain ⟨rfl, rfl⟩ := hfit
        exact va_tlen hx hb (hV _ _ _ hgv) hS rfl hdec (k H locs la hl hP hD hS)
      · cases h
  · cases h
theorem xj_snM (hx : p.tables.exec = Jvm.exec) (hb : c.code = cc) (hown : s.vm.findClass own = some m.cls) (hml : c.maxLocals = nL) (hK : va_K D cl (xj_ty cA) s) (hRf : 1 ≤ R.frames) (hRl : 64 ≤ R.locals)
    (hO : ∀ ix a b, xj_ml X mi ix = some (9, a, b) → (Jvm.Cond.methodLink own ix Lib.objectInit).before args s = true ∧ (Jvm.Cond.instanceMethod Lib.objectInit).before args s = true ∧ (Jvm.Cond.code Lib.objectInit ⟨#[0xb1]⟩ 1 none).before args s = true)
    (hC : ∀ ix a b, xj_ml X mi ix = some (8, a, b) → (Jvm.Cond.methodLink own ix arraycopyName).before args s = true ∧ (Jvm.Cond.native arraycopyName).before args s = true ∧ (Jvm.Cond.static arraycopyName).before args s = true ∧ (Jvm.Cond.initialized "java/lang/System").before args s = true)
    (h : xj_sM X mi i nx ls st w = some (pc', ls', st', w')) (hd : xj_dec cc nL pc i nx) (k : xj_Go p l e R s m args below meth c cells slots Q D cl cA A nL ad pc' ls' st' w') : xj_Go p l e R s m args below meth c cells slots Q D cl cA A nL ad pc ls st w := by
  obtain ⟨len, hdec, hfit⟩ := hd
  intro H locs la hl hP hD hS
  have hcat : ∀ r : List Value, ((r.map (xj_cv ad)).map fun v => v.category).sum = (r.map fun v => v.category).sum := by
    intro r
    rw [List.map_map]
    congr 1
    apply List.map_congr_left
    intro v _
    exact xj_cv_cat ad v
  unfold xj_sM at h
  split at h
  · rename_i ix a r
    split at h
    · rename_i q1 q2 hmlk
      split at h
      · rename_i hsum
        simp only [Option.some.injEq, Prod.mk.injEq] at h
        obtain ⟨rfl, rfl, rfl, rfl⟩ := h
        simp only [xj_fit, Bool.and_eq_true, decide_eq_true_eq] at hfit
        obtain ⟨rfl, rfl⟩ := hfit
        obtain ⟨o1, o2, o3⟩ := hO _ _ _ hmlk
        refine W.objInit hx hb hown o1 o2 o3 rfl (by rw [hml]; exact hl.1) rfl hdec hRf ?_ (k H locs la hl hP hD hS)
        have hm0 : (F0 m pc la (Value.ref (ad a) :: r.map (xj_cv ad))).monitorRoom = 0 := rfl
        have hc9 := hcat r
        show 2 * (F0 m pc la (Value.ref (ad a) :: r.map (xj_cv ad))).monitorRoom + ((r.map (xj_cv ad)).map fun v => v.category).sum + 12 ≤ R.locals
        rw [hm0, hc9]
        omega
      · cases h
    · cases h
  · rename_i ix n dp b sp a r
    split at h
    · rename_i q1 q2 na nb hmlk ha hbb
      split at h
      · cases h
      · rename_i hno
        simp only [Option.some.injEq, Prod.mk.injEq] at h
        obtain ⟨rfl, rfl, rfl, rfl⟩ := h
        simp only [xj_fit, Bool.and_eq_true, decide_eq_true_eq] at hfit
        obtain ⟨rfl, rfl⟩ := hfit
        obtain ⟨o1, o2, o3, o4⟩ := hC _ _ _ hmlk
        simp only [not_or] at hno
        obtain ⟨n1, n2, n3, n4, n5, n6⟩ := hno
        have hcw := xj_cw_set (ad := ad) (cA := cA) (S := w.1) (S' := w.1) (σ := w.2.1) (σ' := xj_setA w.2.1 b (va_cpy (w.2.1 a) (w.2.1 b) sp.toNatClampNeg dp.toNatClampNeg n.toNatClampNeg)) (τ := w.2.2) (τ' := w.2.2) (c := b) (xj_self hbb) (fun q hq => xj_setA_ne _ _ hq) (fun _ _ => rfl) (e := .inl (cA .int, nb, .inl (va_cpy (w.2.1 a) (w.2.1 b) sp.toNatClampNeg dp.toNatClampNeg n.toNatClampNeg))) (by rw [xj_setA_same]; rfl)
        have hw9 : nativeFrameWords "java/lang/System" "arraycopy" 5 ≤ 40 := by decide
        have hc9 := hcat r
        refine va_copyi hx hb (hml.trans hl.1.symm) hown o1 o2 o3 o4 hK hP hD hS a b 0 0 (xj_cw_at ha) (xj_cw_at hbb) rfl rfl rfl n1 n2 n3 (by omega) (by omega) (fun _ _ => rfl) hRf (by rw [hc9]; omega) hdec fun H1 locs1 hP1 hD1 hS1 => ?_
        exact k H1 locs1 la hl (by rw [hcw]; exact hP1) (by rw [hcw]; exact hD1) hS1
    · cases h
  · cases h
end XJ2
end
section
/-! all plain steps together -/
theorem xj_or_some {a b : Option xj_F} {f : xj_F} (h : xj_or a b = some f) : a = some f ∨ b = some f := by
  cases a with
  | some q => exact Or.inl h
  | none => exact Or.inr h
section XJ3
variable {p : Program} {l : Launch} {e : Env} {R : Room} {s : State} {m : MethodId} {args : Array Value} {below : List Frame} {meth : Method} {c : Code} {cells slots : Nat} {Q : State → Prop}
variable {D : va_G} {cl : List vw_C} {cA : FieldType → ClassId} {A : Nat → Prop} {nL : Nat} {ad : Nat → Nat} {cc : ByteArray}
variable {X : xj_T} {mi : Nat} {own : String} {Ts : List Jvm.Cond}
variable {i : Instr} {nx pc pc' : Nat} {ls ls' : List (Nat × Value)} {st st' : List Value} {w w' : xj_W}
/-- what the tables owe to a body of our method mi -/
def xj_Tb (X : xj_T) (mi : Nat) (own name : String) (cc : ByteArray) (nL : Nat) (s : State) (args : Array Value) (Ts : List Jvm.Cond) (cl : List vw_C) : Prop :=
  (∀ pc i nx, xj_cd X mi pc = some (i, nx) → xj_dec cc nL pc i nx) ∧ xj_Fl X mi own name s args Ts cl ∧
  (∀ ix a b, xj_ml X mi ix = some (9, a, b) → (Jvm.Cond.methodLink own ix Lib.objectInit).before args s = true ∧ (Jvm.Cond.instanceMethod Lib.objectInit).before args s = true ∧ (Jvm.Cond.code Lib.objectInit ⟨#[0xb1]⟩ 1 none).before args s = true) ∧
  (∀ ix a b, xj_ml X mi ix = some (8, a, b) → (Jvm.Cond.methodLink own ix arraycopyName).before args s = true ∧ (Jvm.Cond.native arraycopyName).before args s = true ∧ (Jvm.Cond.static arraycopyName).before args s = true ∧ (Jvm.Cond.initialized "java/lang/System").before args s = true)
theorem xj_snS (hx : p.tables.exec = Jvm.exec) (hb : c.code = cc) (hts : ∀ w ∈ Ts, w.before args s = true) (hown : s.vm.findClass own = some m.cls) (hml : c.maxLocals = nL) (hK : va_K D cl (xj_ty cA) s) (hRf : 1 ≤ R.frames) (hRl : 64 ≤ R.locals)
    (hT : xj_Tb X mi own meth.name cc nL s args Ts cl)
    (hG : ∀ ix a, xj_gs X mi ix = some a → ∀ (H : Heap) (locs : List Loc) (pc : Nat) (la : Array Slot) (rest : List Value), va_S A s.heap H locs → decode cc pc = .ok (.getstatic ix, 3) → W p l e R s m args below meth c H locs cells slots Q (F0 m (pc + 3) la (.ref (ad a) :: rest)) → W p l e R s m args below meth c H locs cells slots Q (F0 m pc la rest))
    (hV : ∀ a n f, xj_gv X a = some (n, f) → va_T .int (ad a) n (fun j => .int (f j)) A s s.heap)
    (hcd : xj_cd X mi pc = some (i, nx)) (h : xj_step X mi i nx pc ls st w = some (pc', ls', st', w'))
    (k : xj_Go p l e R s m args below meth c cells slots Q D cl cA A nL ad pc' ls' st' w') : xj_Go p l e R s m args below meth c cells slots Q D cl cA A nL ad pc ls st w := by
  obtain ⟨hdc, hF, hO, hC⟩ := hT
  have hd := hdc _ _ _ hcd
  unfold xj_step at h
  rcases xj_or_some h with h | h
  · exact xj_snA hx hb h hd k
  rcases xj_or_some h with h | h
  · exact xj_snB hx hb h hd k
  rcases xj_or_some h with h | h
  · exact xj_snC hx hb h hd k
  rcases xj_or_some h with h | h
  · exact xj_snD hx hb h hd k
  rcases xj_or_some h with h | h
  · exact xj_snE hx hb h hd k
  rcases xj_or_some h with h | h
  · exact xj_snF hx hb h hd k
  rcases xj_or_some h with h | h
  · exact xj_snG hx hb h hd k
  rcases xj_or_some h with h | h
  · exact xj_snJ hx hb hts hown hK hF hG h hd k
  rcases xj_or_some h with h | h
  · exact xj_snL hx hb hK hV h hd k
  rcases xj_or_some h with h | h
  · exact xj_snH hx hb h hd k
  rcases xj_or_some h with h | h
  · exact xj_snI hx hb hK h hd k
  · exact xj_snM hx hb hown hml hK hRf hRl hO hC h hd k
end XJ3
end
