/-! all plain steps together -/
theorem xj_or_some {a b : Option xj_F} {f : xj_F} (h : xj_or a b = some f) : a = some f ∨ b = some f := by
  cases a with
  | some q => exact Or.inl h
  | none => exact Or.inr h
section XJ3
variable {p : Program} {l : Launch} {e : Env} {R : Room} {s : State} {m : MethodId} {args : Array Value} {below : List Frame} {meth : Method} {c : Code} {cells slots : Nat} {Q : State → Prop}
variable {D : va_G} {cl : List vw_C} {cA : FieldType → ClassId} {A : Nat → Prop} {nL : Nat} {ad : Nat → Nat} {cc : ByteArray}
variable {X : xj_T} {mi : Nat} {own : String} {Ts : List Jvm.Cond}
variable {i : Instr} {nx pc pc' : Nat} {ls ls' : List (Nat × Value)} {st st' : List Value} {w w' : xj_W}
/-- what the tables owe to a body of our method mi -/
def xj_Tb (X : xj_T) (mi : Nat) (own name : String) (cc : ByteArray) (nL : Nat) (s : State) (args : Array Value) (Ts : List Jvm.Cond) (cl : List vw_C) : Prop :=
  (∀ pc i nx, xj_cd X mi pc = some (i, nx) → xj_dec cc nL pc i nx) ∧ xj_Fl X mi own name s args Ts cl ∧
  (∀ ix a b, xj_ml X mi ix = some (9, a, b) → (Jvm.Cond.methodLink own ix Lib.objectInit).before args s = true ∧ (Jvm.Cond.instanceMethod Lib.objectInit).before args s = true ∧ (Jvm.Cond.code Lib.objectInit ⟨#[0xb1]⟩ 1 none).before args s = true) ∧
  (∀ ix a b, xj_ml X mi ix = some (8, a, b) → (Jvm.Cond.methodLink own ix arraycopyName).before args s = true ∧ (Jvm.Cond.native arraycopyName).before args s = true ∧ (Jvm.Cond.static arraycopyName).before args s = true ∧ (Jvm.Cond.initialized "java/lang/System").before args s = true)
theorem xj_snS (hx : p.tables.exec = Jvm.exec) (hb : c.code = cc) (hts : ∀ w ∈ Ts, w.before args s = true) (hown : s.vm.findClass own = some m.cls) (hml : c.maxLocals = nL) (hK : va_K D cl (xj_ty cA) s) (hRf : 1 ≤ R.frames) (hRl : 64 ≤ R.locals)
    (hT : xj_Tb X mi own meth.name cc nL s args Ts cl)
    (hG : ∀ ix a, xj_gs X mi ix = some a → ∀ (H : Heap) (locs : List Loc) (pc : Nat) (la : Array Slot) (rest : List Value), va_S A s.heap H locs → decode cc pc = .ok (.getstatic ix, 3) → W p l e R s m args below meth c H locs cells slots Q (F0 m (pc + 3) la (.ref (ad a) :: rest)) → W p l e R s m args below meth c H locs cells slots Q (F0 m pc la rest))
    (hV : ∀ a n f, xj_gv X a = some (n, f) → va_T .int (ad a) n (fun j => .int (f j)) A s s.heap)
    (hcd : xj_cd X mi pc = some (i, nx)) (h : xj_step X mi i nx pc ls st w = some (pc', ls', st', w'))
    (k : xj_Go p l e R s m args below meth c cells slots Q D cl cA A nL ad pc' ls' st' w') : xj_Go p l e R s m args below meth c cells slots Q D cl cA A nL ad pc ls st w := by
  obtain ⟨hdc, hF, hO, hC⟩ := hT
  have hd := hdc _ _ _ hcd
  unfold xj_step at h
  rcases xj_or_some h with h | h
  · exact xj_snA hx hb h hd k
  rcases xj_or_some h with h | h
  · exact xj_snB hx hb h hd k
  rcases xj_or_some h with h | h
  · exact xj_snC hx hb h hd k
  rcases xj_or_some h with h | h
  · exact xj_snD hx hb h hd k
  rcases xj_or_some h with h | h
  · exact xj_snE hx hb h hd k
  rcases xj_or_some h with h | h
  · exact xj_snF hx hb h hd k
  rcases xj_or_some h with h | h
  · exact xj_snG hx hb h hd k
  rcases xj_or_some h with h | h
  · exact xj_snJ hx hb hts hown hK hF hG h hd k
  rcases xj_or_some h with h | h
  · exact xj_snL hx hb hK hV h hd k
  rcases xj_or_some h with h | h
  · exact xj_snH hx hb h hd k
  rcases xj_or_some h with h | h
  · exact xj_snI hx hb hK h hd k
  · exact xj_snM hx hb hown hml hK hRf hRl hO hC h hd k
end XJ3
