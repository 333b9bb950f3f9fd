/-! the words that our frames use, and that the tables have them -/
def xcm : List Jvm.Cond := lw_tbl.filter goodWord
theorem xcm_good : xcm.all goodWord = true := List.all_eq_true.mpr fun w h => (List.mem_filter.mp h).2
def xwk : List Jvm.Cond := [.fieldLinkNest "CaseDesk$Life" 49 "CaseDesk" "STATE_AFTER" "[I" "CaseDesk", .methodLinkNest "CaseDesk" 18 ⟨"CaseDesk$Life", "<init>", "()V"⟩ "CaseDesk", .methodLinkNest "CaseDesk$Plan" 67 ⟨"CaseDesk", "isVariable", "(I)Z"⟩ "CaseDesk", .castable "java/lang/IllegalStateException" "java/lang/IllegalStateException", .castable "java/lang/IllegalArgumentException" "java/lang/IllegalArgumentException", .castable "java/lang/UnsupportedOperationException" "java/lang/UnsupportedOperationException", .castable "java/util/NoSuchElementException" "java/util/NoSuchElementException", .declares ⟨"java/lang/RuntimeException", "<init>", "(Ljava/lang/String;)V"⟩, .declares ⟨"java/lang/Exception", "<init>", "(Ljava/lang/String;)V"⟩, .declares ⟨"java/lang/Throwable", "<init>", "(Ljava/lang/String;)V"⟩]
theorem xwk_ok : xj_Wk xwk := by
  intro w hw
  simp only [xwk, List.mem_cons, List.not_mem_nil, or_false] at hw
  rcases hw with rfl | rfl | rfl | rfl | rfl | rfl | rfl | rfl | rfl | rfl
  · exact ⟨rfl, fun _ _ hW h => va_Nw.warmF hW h⟩
  · exact ⟨rfl, fun _ _ hW h => va_Nw.warmM hW h⟩
  · exact ⟨rfl, fun _ _ hW h => va_Nw.warmM hW h⟩
  · exact ⟨rfl, fun _ _ hW h => va_Nw.warmC hW h⟩
  · exact ⟨rfl, fun _ _ hW h => va_Nw.warmC hW h⟩
  · exact ⟨rfl, fun _ _ hW h => va_Nw.warmC hW h⟩
  · exact ⟨rfl, fun _ _ hW h => va_Nw.warmC hW h⟩
  · exact ⟨rfl, fun _ _ hW h => va_Nw.warmD hW h⟩
  · exact ⟨rfl, fun _ _ hW h => va_Nw.warmD hW h⟩
  · exact ⟨rfl, fun _ _ hW h => va_Nw.warmD hW h⟩
theorem xwk_in : ∀ w ∈ xwk, w ∈ lw_tbl := by decide +kernel
def xsl : List (String × Nat × String) := [("CaseDesk", 36, "the case has begun, or there are 12 items"), ("CaseDesk", 47, "no such kind, stage or flags"), ("CaseDesk", 57, "the case has begun, or there are 16 sentries"), ("CaseDesk", 63, "no item that can have such a sentry"), ("CaseDesk", 72, "the case has begun, or the sentry has two on-parts"), ("CaseDesk", 81, "no such sentry, source or move"), ("CaseDesk", 86, "the case has begun"), ("CaseDesk", 91, "no such sentry, variable or sign"), ("CaseDesk", 97, "no such bound"), ("CaseDesk", 219, "the command was cut off"), ("CaseDesk", 121, "no such instance"), ("CaseDesk", 127, "no move for a command"), ("CaseDesk", 133, "the instance can't make this move now"), ("CaseDesk", 135, "no such variable")]
def xnc : List (String × String) := [("java/lang/IllegalStateException", "java/lang/IllegalArgumentException"), ("java/lang/IllegalStateException", "java/lang/UnsupportedOperationException"), ("java/lang/IllegalStateException", "java/util/NoSuchElementException"), ("java/lang/IllegalArgumentException", "java/lang/IllegalStateException"), ("java/lang/IllegalArgumentException", "java/lang/UnsupportedOperationException"), ("java/lang/IllegalArgumentException", "java/util/NoSuchElementException"), ("java/lang/UnsupportedOperationException", "java/lang/IllegalStateException"), ("java/lang/UnsupportedOperationException", "java/lang/IllegalArgumentException"), ("java/lang/UnsupportedOperationException", "java/util/NoSuchElementException"), ("java/util/NoSuchElementException", "java/lang/IllegalStateException"), ("java/util/NoSuchElementException", "java/lang/IllegalArgumentException"), ("java/util/NoSuchElementException", "java/lang/UnsupportedOperationException")]
theorem xcl_0a : ∀ w ∈ u_ws "CaseDesk$Life" xT0 11, w ∈ xcm := by decide +kernel
theorem xcl_0b : ∀ k, k < 11 → parseFieldDescriptor (xT0 k).2.2.1 = some (xt0 k) := by decide +kernel
theorem xcl_0c : ∀ a, a < 11 → ∀ b, b < 11 → a ≠ b → (xT0 a).2.1 ≠ (xT0 b).2.1 := by decide +kernel
theorem xcl_1a : ∀ w ∈ u_ws "CaseDesk$Plan" xT1 14, w ∈ xcm := by decide +kernel
theorem xcl_1b : ∀ k, k < 14 → parseFieldDescriptor (xT1 k).2.2.1 = some (xt1 k) := by decide +kernel
theorem xcl_1c : ∀ a, a < 14 → ∀ b, b < 14 → a ≠ b → (xT1 a).2.1 ≠ (xT1 b).2.1 := by decide +kernel
theorem xcl_2a : ∀ w ∈ u_ws "CaseDesk" xT2 5, w ∈ xcm := by decide +kernel
theorem xcl_2b : ∀ k, k < 5 → parseFieldDescriptor (xT2 k).2.2.1 = some (xt2 k) := by decide +kernel
theorem xcl_2c : ∀ a, a < 5 → ∀ b, b < 5 → a ≠ b → (xT2 a).2.1 ≠ (xT2 b).2.1 := by decide +kernel
theorem xcl_3a : ∀ w ∈ u_ws "CaseDeskModel" xT3 43, w ∈ xcm := by decide +kernel
theorem xcl_3b : ∀ k, k < 43 → parseFieldDescriptor (xT3 k).2.2.1 = some (xt3 k) := by decide +kernel
theorem xcl_3c : ∀ a, a < 43 → ∀ b, b < 43 → a ≠ b → (xT3 a).2.1 ≠ (xT3 b).2.1 := by decide +kernel
theorem xcl_ok : ∀ (ci : Nat) (C : String) (T : u_T) (N : Nat), xcl[ci]? = some (C, T, N) → (∀ w ∈ u_ws C T N, w ∈ xcm) ∧ (∀ k, k < N → parseFieldDescriptor (T k).2.2.1 = some (xty ci k)) ∧ (∀ a, a < N → ∀ b, b < N → a ≠ b → (T a).2.1 ≠ (T b).2.1) := by
  intro ci C T N h
  match ci, h with
  | 0, h => cases h; exact ⟨xcl_0a, xcl_0b, xcl_0c⟩
  | 1, h => cases h; exact ⟨xcl_1a, xcl_1b, xcl_1c⟩
  | 2, h => cases h; exact ⟨xcl_2a, xcl_2b, xcl_2c⟩
  | 3, h => cases h; exact ⟨xcl_3a, xcl_3b, xcl_3c⟩
  | n + 4, h => cases h
def xj_isR : FieldType → Bool
  | .array _ => true
  | .object _ => true
  | _ => false
theorem xj_isR_ok {t : FieldType} (h : xj_isR t = true) : (∃ a, t = .array a) ∨ ∃ n, t = .object n := by
  cases t <;> first | exact Or.inl ⟨_, rfl⟩ | exact Or.inr ⟨_, rfl⟩ | cases h
def xj_flk (own : String) (ini : Bool) (q : Nat × Nat × Nat × Nat) : Bool := match xcl[q.2.1]? with
  | none => false
  | some (_, T, N) => decide (q.2.2.1 < N) && decide (Jvm.Cond.fieldLink own q.1 (T q.2.2.1).1 (T q.2.2.1).2.1 (T q.2.2.1).2.2.1 ∈ xcm) &&
    (decide (q.2.2.2 ≠ 0) || (decide (xty q.2.1 q.2.2.1 = .int) && !(T q.2.2.1).2.2.2)) && (decide (q.2.2.2 ≠ 1) || (decide (xty q.2.1 q.2.2.1 = .boolean) && !(T q.2.2.1).2.2.2)) &&
    (decide (q.2.2.2 ≠ 2) || (xj_isR (xty q.2.1 q.2.2.1) && (T q.2.2.1).2.2.2 && decide ((T q.2.2.1).1 = own) && ini))
theorem xj_flk_ok {own : String} {ini : Bool} {tab : List (Nat × Nat × Nat × Nat)} (h : tab.all (xj_flk own ini) = true) {ix ci k so : Nat} (hl : tab.lookup ix = some (ci, k, so)) :
    ∃ (C : String) (T : u_T) (N : Nat) (ty0 : Nat → FieldType), xcl[ci]? = some (C, T, N) ∧ (∀ w ∈ u_ws C T N, w ∈ xcm) ∧ (∀ k, k < N → parseFieldDescriptor (T k).2.2.1 = some (ty0 k)) ∧ (∀ a, a < N → ∀ b, b < N → a ≠ b → (T a).2.1 ≠ (T b).2.1) ∧ k < N ∧
    Jvm.Cond.fieldLink own ix (T k).1 (T k).2.1 (T k).2.2.1 ∈ xcm ∧
    (so = 0 → ty0 k = .int ∧ (T k).2.2.2 = false) ∧ (so = 1 → ty0 k = .boolean ∧ (T k).2.2.2 = false) ∧ (so = 2 → ((∃ t, ty0 k = .array t) ∨ ∃ n, ty0 k = .object n) ∧ (T k).2.2.2 = true ∧ (T k).1 = own ∧ ini = true) := by
  have h1 := List.all_eq_true.mp h _ (xj_lku hl)
  unfold xj_flk at h1
  simp only at h1
  split at h1
  · cases h1
  · rename_i C T N hcl
    simp only [Bool.and_eq_true, Bool.or_eq_true, decide_eq_true_eq, Bool.not_eq_true'] at h1
    obtain ⟨⟨⟨⟨a1, a2⟩, a3⟩, a4⟩, a5⟩ := h1
    obtain ⟨c1, c2, c3⟩ := xcl_ok _ _ _ _ hcl
    refine ⟨C, T, N, xty ci, hcl, c1, c2, c3, a1, a2, fun e => ?_, fun e => ?_, fun e => ?_⟩
    · exact a3.resolve_left (fun q => q e)
    · exact a4.resolve_left (fun q => q e)
    · obtain ⟨⟨⟨b1, b2⟩, b3⟩, b4⟩ := a5.resolve_left (fun q => q e)
      exact ⟨xj_isR_ok b1, b2, b3, b4⟩
theorem xF2n_ok : xF2n.all (xj_flk "CaseDesk$Life" false) = true := by decide +kernel
theorem xF2i_ok : xF2i.all (xj_flk "CaseDesk$Life" true) = true := by decide +kernel
theorem xF3n_ok : xF3n.all (xj_flk "CaseDesk$Plan" false) = true := by decide +kernel
theorem xF3i_ok : xF3i.all (xj_flk "CaseDesk$Plan" true) = true := by decide +kernel
theorem xF4n_ok : xF4n.all (xj_flk "CaseDesk" false) = true := by decide +kernel
theorem xF4i_ok : xF4i.all (xj_flk "CaseDesk" true) = true := by decide +kernel
theorem xF5n_ok : xF5n.all (xj_flk "CaseDeskModel" false) = true := by decide +kernel
theorem xF5i_ok : xF5i.all (xj_flk "CaseDeskModel" true) = true := by decide +kernel
