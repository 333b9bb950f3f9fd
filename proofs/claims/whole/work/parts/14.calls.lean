/-! behind a call: what a callee of ours leaves; what holds at every start -/
def xj_Qr (D : va_G) (cl : List vw_C) (cA : FieldType → ClassId) (A : Nat → Prop) (n : Nat) (ad : Nat → Nat) (v : Option Value) (w : xj_W) : Array Value → State → Outcome → State → Prop := fun _ st oc t =>
  ∃ ad', xj_ag n ad ad' ∧ oc = .returned (v.map (xj_cv ad')) ∧ va_P D cl (xj_cw ad' cA w) t.heap ∧ va_D A (xj_cw ad' cA w) ∧ va_F A st t
def xj_XC (D : va_G) (cl : List vw_C) (cA : FieldType → ClassId) (A : Nat → Prop) (E0 : String) (n : Nat) (ad : Nat → Nat) (w : xj_W) : String → State → State → Prop := fun E st t =>
  E = E0 ∧ ∃ ad', xj_ag n ad ad' ∧ va_P D cl (xj_cw ad' cA w) t.heap ∧ va_D A (xj_cw ad' cA w) ∧ va_F A st t
/-- no return -/
def xj_No : Array Value → State → Outcome → State → Prop := fun _ _ _ _ => False
section XJ5
variable {p : Program} {l : Launch} {e : Env} {R : Room} {s : State} {m : MethodId} {args : Array Value} {below : List Frame} {meth : Method} {c : Code} {H : Heap} {locs : List Loc} {cells slots : Nat} {Q : State → Prop}
variable {D : va_G} {cl : List vw_C} {cA : FieldType → ClassId} {A : Nat → Prop} {nL n mc ms pc : Nat} {ad : Nat → Nat} {la : Array Slot} {st0 rest : List Value} {a : Array Value} {w : xj_W}
theorem xj_cont {v : Option Value} (hr : va_Run p l e R s m args below meth c H locs cells slots mc ms (F0 m pc la st0) rest (xj_Qr D cl cA A n ad v w a) A) (hS : va_S A s.heap H locs)
    (kk : ∀ (ad' : Nat → Nat) (H1 : Heap) (locs1 : List Loc), xj_ag n ad ad' → va_P D cl (xj_cw ad' cA w) H1 → va_D A (xj_cw ad' cA w) → va_S A s.heap H1 locs1 → W p l e R s m args below meth c H1 locs1 (cells + mc) (slots + ms) Q (F0 m (pc + 3) la ((v.map (xj_cv ad')).toList ++ rest))) : W p l e R s m args below meth c H locs cells slots Q (F0 m pc la st0) := by
  intro T hT X
  obtain ⟨v9, st₀, t, T', L, h0, X', hL, e1, e2, ⟨ad', hag, hv, hP1, hD1, hz, hk⟩, st⟩ := hr T hT X
  cases hv
  rw [h0] at hz hk
  obtain ⟨t2, a1, b1⟩ := kk ad' T'.heap (locs ++ L) hag (by rw [e1]; exact hP1) hD1
    ⟨Nat.le_trans hS.1 (by rw [e1]; exact hz), fun q h1 h2 => by rw [e1, hk q (Nat.lt_of_lt_of_le h1 hS.1) h2]; exact hS.2.1 q h1 h2, fun q hq => by
      rcases List.mem_append.mp hq with h | h
      · exact hS.2.2 q h
      · exact hL q h⟩ T' rfl X'
  exact ⟨t2, st t2 a1, b1⟩
theorem xj_contX {E0 : String} (hr : vx_Run p l e R s m args below meth c H locs cells slots mc ms (F0 m pc la st0) rest (xj_No a) (xj_XC D cl cA A E0 n ad w) A) (hS : va_S A s.heap H locs)
    (kk : ∀ (ad' : Nat → Nat) (H1 : Heap) (locs1 : List Loc) (ce : Cell) (q9 : Addr), xj_ag n ad ad' → va_P D cl (xj_cw ad' cA w) H1 → va_D A (xj_cw ad' cA w) → va_S A s.heap H1 locs1 → H1[q9]? = some ce → ce.vm = .none → s.vm.findClass E0 = some ce.cls → vx_W p l e R s m args below meth c H1 locs1 (cells + mc) (slots + ms) Q (F0 m pc la rest) q9) : W p l e R s m args below meth c H locs cells slots Q (F0 m pc la st0) := by
  intro T hT X
  rcases hr T hT X with ⟨v, st₀, t, T', L, h0, X', hL, e1, e2, hno, st⟩ | ⟨q, st₀, t, T', L, E, ce, h0, X', hL, e1, e2, ⟨rfl, ad', hag, hP1, hD1, hz, hk⟩, hce, hcv, hcl, st⟩
  · exact hno.elim
  · rw [h0] at hz hk
    obtain ⟨t2, a1, b1⟩ := kk ad' T'.heap (locs ++ L) ce q hag (by rw [e1]; exact hP1) hD1
      ⟨Nat.le_trans hS.1 (by rw [e1]; exact hz), fun q h1 h2 => by rw [e1, hk q (Nat.lt_of_lt_of_le h1 hS.1) h2]; exact hS.2.1 q h1 h2, fun q hq => by
        rcases List.mem_append.mp hq with h | h
        · exact hS.2.2 q h
        · exact hL q h⟩ (by rw [e1]; exact hce) hcv hcl T' rfl X'
    exact ⟨t2, st.trans a1, b1⟩
end XJ5
/-- what holds of the tables and of the cells that were there before all ours -/
def xj_Fx (X : xj_T) (D : va_G) (cl : List vw_C) (cA : FieldType → ClassId) (A : Nat → Prop) (wk : List Jvm.Cond) (stL : List (String × Nat × String)) (ncL : List (String × String)) (ad : Nat → Nat) (U : State) (H : Heap) : Prop :=
  va_K D cl (xj_ty cA) U ∧ (∀ a n f, xj_gv X a = some (n, f) → va_T .int (ad a) n (fun j => .int (f j)) A U H) ∧ va_Z "CaseDesk" "STATE_AFTER" "[I" (.ref (ad 1001)) A U H ∧ (∀ w ∈ wk, va_Nw w U) ∧
  vx_Zq Bundle.tN "UNASSIGNED_STACK" Bundle.steD A U H ∧ vx_Zq Bundle.tN "SUPPRESSED_SENTINEL" Bundle.listD A U H ∧ (∀ q ∈ stL, ∃ sa, vk_R q.1 q.2.1 q.2.2 sa U) ∧ (∀ q ∈ ncL, va_Nc q.1 q.2 U)
/-- words of wk: the tables alone decide them, and warmer tables don't change them -/
def xj_Wk (wk : List Jvm.Cond) : Prop := ∀ w ∈ wk, w.onTables = true ∧ ∀ s U : State, s.WarmedH U.vm → va_Nw w s → va_Nw w U
theorem xj_Fx.go {X : xj_T} {D : va_G} {cl : List vw_C} {cA : FieldType → ClassId} {A : Nat → Prop} {wk : List Jvm.Cond} {stL : List (String × Nat × String)} {ncL : List (String × String)} {ad : Nat → Nat} {s U : State} {H H1 : Heap} (hwk : xj_Wk wk) (h : xj_Fx X D cl cA A wk stL ncL ad s H) (hW : s.WarmedH U.vm) (hq : ∀ a : Nat, a < H.size → ¬ A a → H1[a]? = H[a]?) : xj_Fx X D cl cA A wk stL ncL ad U H1 := by
  obtain ⟨h1, h2, h3, h4, h5, h6, h7, h8⟩ := h
  exact ⟨va_K.moved hW.alike h1, fun a n f hf => va_T.moved hW.alike ((h2 a n f hf).kept hq), va_Z.moved hW.alike (h3.kept hq), fun w hw => (hwk w hw).2 s U hW (h4 w hw), vx_Zq.moved hW.alike (h5.kept hq), vx_Zq.moved hW.alike (h6.kept hq),
    fun q hq' => by obtain ⟨sa, hs⟩ := h7 q hq'; exact ⟨sa, vk_R.warm hW hs⟩, fun q hq' => va_Nc.moved hW.alike (h8 q hq')⟩
theorem xj_Fx.ag {X : xj_T} {D : va_G} {cl : List vw_C} {cA : FieldType → ClassId} {A : Nat → Prop} {wk : List Jvm.Cond} {stL : List (String × Nat × String)} {ncL : List (String × String)} {ad ad' : Nat → Nat} {n : Nat} {s : State} {H : Heap} (hgv : ∀ a n f, xj_gv X a = some (n, f) → 1000 ≤ a ∧ a < 2000) (h : xj_Fx X D cl cA A wk stL ncL ad s H) (hag : xj_ag n ad ad') : xj_Fx X D cl cA A wk stL ncL ad' s H := by
  obtain ⟨h1, h2, h3, h4⟩ := h
  refine ⟨h1, fun a n f hf => ?_, ?_, h4⟩
  · rw [hag a (Or.inr (hgv a n f hf))]; exact h2 a n f hf
  · rw [hag 1001 (Or.inr (by omega))]; exact h3
/-- a callee's start -/
def xj_Pc (X : xj_T) (D : va_G) (cl : List vw_C) (cA : FieldType → ClassId) (sz : Nat) (wk : List Jvm.Cond) (stL : List (String × Nat × String)) (ncL : List (String × String)) (ad : Nat → Nat) (av : List Value) (w : xj_W) : Array Value → State → Prop :=
  va_Pc (av.map (xj_cv ad)) (fun U => xj_Fx X D cl cA (fun q => sz ≤ q) wk stL ncL ad U U.heap ∧ sz ≤ U.heap.size ∧ va_P D cl (xj_cw ad cA w) U.heap ∧ va_D (fun q => sz ≤ q) (xj_cw ad cA w))
theorem xj_Pc.blind {X : xj_T} {D : va_G} {cl : List vw_C} {cA : FieldType → ClassId} {sz : Nat} {wk : List Jvm.Cond} {stL : List (String × Nat × String)} {ncL : List (String × String)} {ad : Nat → Nat} {av : List Value} {w : xj_W} (hwk : xj_Wk wk) : FrameBlind (xj_Pc X D cl cA sz wk stL ncL ad av w) := by
  intro a U g mk h
  obtain ⟨h1, h2, h3⟩ := h
  exact ⟨h1, xj_Fx.go hwk h2 (State.WarmedH.refl U) (fun _ _ _ => rfl), h3⟩
/-- the room of a call at depth d -/
def xj_rm (d c z : Nat) : Room := { frames := d + 9, cells := c, slots := z, locals := 48 * d + 160 }
