/-! returns, and new cells -/
section XJ4
variable {p : Program} {l : Launch} {e : Env} {R : Room} {s : State} {m : MethodId} {args : Array Value} {below : List Frame} {meth : Method} {c : Code} {H : Heap} {locs : List Loc} {cells slots : Nat} {Q : State → Prop}
variable {D : va_G} {cl : List vw_C} {cA : FieldType → ClassId} {A : Nat → Prop} {nL : Nat} {ad : Nat → Nat} {cc : ByteArray}
variable {X : xj_T} {mi : Nat} {own : String} {Ts : List Jvm.Cond}
variable {i : Instr} {nx pc pc' : Nat} {ls ls' : List (Nat × Value)} {st st' : List Value} {w w' : xj_W} {la : Array Slot}
theorem xj_rt {Qc : Array Value → State → Outcome → State → Prop} {free : Addr → Prop} {o : Option Value ⊕ Nat} {c0 z0 : Nat} (hx : p.tables.exec = Jvm.exec) (hb : c.code = cc) (hr : meth.sig.returnType = (xj_mt X mi).2) (hlocks : meth.locks = false) (h : xj_end X mi i st w = some (o, w', c0, z0)) (hd : xj_dec cc nL pc i nx)
    (hq : ∀ v, o = .inl v → ∀ t : State, t.heap = H → s.WarmedH t.vm → Qc args s (.returned (v.map (xj_cv ad))) t) (hf : ∀ q ∈ locs, free q.base) :
    W p l e R s m args below meth c H locs cells slots (MQ below Qc args s cells slots free) (F0 m pc la (st.map (xj_cv ad))) := by
  obtain ⟨len, hdec, hfit⟩ := hd
  unfold xj_end at h
  split at h
  · split at h
    · rename_i hmt
      simp only [Option.some.injEq, Prod.mk.injEq] at h
      obtain ⟨rfl, rfl, rfl, rfl⟩ := h
      simp only [xj_fit, Bool.and_eq_true, decide_eq_true_eq] at hfit
      obtain ⟨rfl, rfl⟩ := hfit
      exact W.vret hx hb (hr.trans hmt) (fun t ht hW => hq none rfl t ht hW) hf hdec hlocks
    · cases h
  · rename_i v
    split at h
    · rename_i hmt
      simp only [Option.some.injEq, Prod.mk.injEq] at h
      obtain ⟨rfl, rfl, rfl, rfl⟩ := h
      simp only [xj_fit, Bool.and_eq_true, decide_eq_true_eq] at hfit
      obtain ⟨rfl, rfl⟩ := hfit
      exact W.iret hx hb (hr.trans hmt) (fun t ht hW => hq _ rfl t ht hW) hf hdec hlocks
    · rename_i hmt
      split at h
      · rename_i h01
        simp only [Option.some.injEq, Prod.mk.injEq] at h
        obtain ⟨rfl, rfl, rfl, rfl⟩ := h
        simp only [xj_fit, Bool.and_eq_true, decide_eq_true_eq] at hfit
        obtain ⟨rfl, rfl⟩ := hfit
        refine W.zret hx hb (hr.trans hmt) ?_ (fun t ht hW => hq _ rfl t ht hW) hf hdec hlocks
        rcases h01 with rfl | rfl
        · rfl
        · rfl
      · cases h
    · cases h
  · cases h
theorem xj_ag_up {n : Nat} {ad : Nat → Nat} {q : Nat} (hn : n < 1000) : xj_ag n ad (va_up ad n q) := fun i hi => va_up_ne ad q (by omega)
theorem xj_ag_up2 {n : Nat} {ad : Nat → Nat} {q : Nat} (hn : n < 1000) : xj_ag n ad (va_up ad 4096 q) := fun i hi => va_up_ne ad q (by omega)
/-- the cells' contents under addresses that agree -/
theorem xj_cell_ag {n : Nat} {ad ad' : Nat → Nat} (hag : xj_ag n ad ad') {σ : Nat → Int32} {τ : Nat → Int64} {sh : xj_S} (h : (match sh with | .inr (_, fs) => fs.all (xj_ok n) | .inl _ => true) = true) : xj_cell ad' cA σ τ sh = xj_cell ad cA σ τ sh := by
  rcases sh with ⟨ty, k⟩ | ⟨ci, fs⟩
  · cases ty <;> rfl
  · show Sum.inr (ci, fs.mapIdx (xj_fv ad' σ)) = Sum.inr (ci, fs.mapIdx (xj_fv ad σ))
    congr 2
    apply List.ext_getElem?
    intro j
    simp only [List.getElem?_mapIdx]
    cases hj : fs[j]? with
    | none => rfl
    | some v =>
      have hv := List.all_eq_true.mp h v (List.mem_of_getElem? hj)
      have e9 := xj_cv_ag hag hv
      cases v <;> first | rfl | (simp only [Option.map_some, xj_fv]; rw [e9])
theorem xj_wok_lt (hw : xj_wok w = true) : w.1.length < 1000 := by
  simp only [xj_wok, Bool.and_eq_true, decide_eq_true_eq] at hw
  exact hw.1
theorem xj_cw_ag {ad ad' : Nat → Nat} (hag : xj_ag w.1.length ad ad') (hw : xj_wok w = true) : xj_cw ad' cA w = xj_cw ad cA w := by
  apply List.ext_getElem?
  intro j
  simp only [xj_cw, List.getElem?_mapIdx]
  cases hj : w.1[j]? with
  | none => rfl
  | some sh =>
    have hl := (List.getElem?_eq_some_iff.mp hj).1
    simp only [Option.map_some]
    simp only [xj_wok, Bool.and_eq_true] at hw
    rw [hag j (Or.inl hl), xj_cell_ag hag (List.all_eq_true.mp hw.2 sh (List.mem_of_getElem? hj))]
/-- one cell more -/
theorem xj_cw_app {ad : Nat → Nat} {q : Nat} {sh : xj_S} {ad' : Nat → Nat} {σ' : Nat → Nat → Int32} {τ' : Nat → Nat → Int64} {e : va_E} (hw : xj_wok w = true) (had : ad' = va_up ad w.1.length q) (h1 : ∀ j, j ≠ w.1.length → σ' j = w.2.1 j) (h2 : ∀ j, j ≠ w.1.length → τ' j = w.2.2 j) (he : xj_cell ad' cA (σ' w.1.length) (τ' w.1.length) sh = e) :
    xj_cw ad' cA (w.1 ++ [sh], σ', τ') = xj_cw ad cA w ++ [(q, e)] := by
  have hn := xj_wok_lt hw
  have e0 : xj_cw ad' cA w = xj_cw ad cA w := xj_cw_ag (by rw [had]; exact xj_ag_up hn) hw
  rw [← e0]
  apply List.ext_getElem?
  intro j
  simp only [xj_cw, List.getElem?_mapIdx, List.getElem?_append, List.length_mapIdx]
  by_cases hj : j < w.1.length
  · simp only [if_pos hj, List.getElem?_mapIdx]
    cases hs : w.1[j]? with
    | none => rfl
    | some q9 => simp only [Option.map_some]; rw [h1 j (by omega), h2 j (by omega)]
  · simp only [if_neg hj]
    by_cases hj2 : j = w.1.length
    · subst hj2
      simp only [Nat.sub_self, List.getElem?_cons_zero, Option.map_some, he]
      rw [had, va_up_self]
    · have hz : ∃ z, j - w.1.length = z + 1 := ⟨j - w.1.length - 1, by omega⟩
      obtain ⟨z, hz⟩ := hz
      rw [hz]
      rfl
end XJ4
