theorem xj_args (ad : Nat → Nat) : ∀ (av : List Value) (i : Nat), lv_args i (av.map (xj_cv ad)) = xj_cl ad (lv_args i av)
  | [], _ => rfl
  | v :: r, i => by
    simp only [List.map_cons, lv_args, xj_cl, xj_cv_cat]
    congr 1
    exact xj_args ad r _
theorem xj_slots (ad : Nat → Nat) : ∀ (av : List Value), xj_one av = true → (lg_sl (av.map (xj_cv ad))).length = av.length
  | [], _ => rfl
  | v :: r, h => by
    simp only [xj_one, List.all_cons, Bool.and_eq_true, beq_iff_eq] at h
    have h2 := xj_slots ad r h.2
    have hc : ¬ (xj_cv ad v).category = 2 := by rw [xj_cv_cat, h.1]; decide
    simp only [lg_sl, List.map_cons, List.flatMap_cons, hc, if_false, List.length_append, List.length_cons, List.length_nil] at h2 ⊢
    omega
/-- as Met.ofW, for a class that the machine has entries for, but none for this method -/
theorem xj_ofW {l : Launch} {y : MethodName} {ws ws' : List Jvm.Cond} {rm : Room} {Pc : Array Value → State → Prop} {Qc : Array Value → State → Outcome → State → Prop} {mc ms : Nat} {free : Addr → Prop} {cc : ByteArray} {maxL : Nat} {ret : Option FieldType}
    (hy : plainFor y = true) (hw : ws = Jvm.Cond.code y cc maxL ret :: ws')
    (body : ∀ p e s m args below meth c s₁, BodyLoose p l y (headSpec ws rm) cc maxL ret e s m args below meth c s₁ → c.maxLocals = maxL → Pc args s →
      W p l e (headSpec ws rm).room s m args below meth c s.heap [] 0 0 (MQ below Qc args s mc ms free) (entryFrame m args maxL)) : Met l y ws rm Pc Qc mc ms free := by
  refine MetFree.of_bodySF (code := cc) (maxLocals := maxL) (ret := ret) hy ?_ ?_
  · intro args s m h hn
    obtain ⟨meth, c, h1, h2, h3, h4, h5, h6, -, -⟩ := Cond.code_spec hn (atoms_spec (ws := ws) h _ (by rw [hw]; exact List.mem_cons_self))
    exact ⟨meth, c, h1, h2, h3, h4, h5, h6⟩
  · intro p e s m args below meth c s₁ B hml hP _
    have hh0 : s₁.heap = s.heap := by rw [B.state]; rfl
    obtain ⟨t, a1, o, b1, b2, b3⟩ := body p e s m args below meth c s₁ B hml hP s₁ hh0 (Stand.of_body B)
    exact ⟨t, o, a1, b1, b2, ⟨b3.1, b3.2⟩⟩
section XJ9
variable {X : xj_T} {yN : Nat → MethodName} {bt : Nat → ByteArray} {mx : Nat → Nat} {hh : Nat → List (Nat × Nat × Nat × Nat)} {cm wk : List Jvm.Cond} {cl : List vw_C} {stL : List (String × Nat × String)} {ncL : List (String × String)} {ex : Nat → String × List String} {l : Launch} {n : Nat}
theorem xj_at_of {p : Program} {y d dc dz : Nat} {e : Env} {s : State} {m : MethodId} {args : Array Value} {below : List Frame} {meth : Method} {c : Code} {s₁ : State} (B : BodyLoose p l (yN y) (headSpec (xj_ws X yN bt mx hh cm y) (xj_rm d dc dz)) (bt y) (mx y) (xj_mt X y).2 e s m args below meth c s₁) (hml : c.maxLocals = mx y) : xj_At X yN bt mx hh cm y p s m args meth c := by
  have hts := atoms_spec (ws := xj_ws X yN bt mx hh cm y) B.pre
  refine ⟨B.exec, B.bytes, hml, B.returns, B.notSynchronized, findClass_of_methodNamed B.named, (name_of_methodNamed B.named B.method).1, fun w hw => hts w (List.mem_cons_of_mem _ hw), ?_⟩
  have hw := hts _ (List.mem_cons_self : xj_wd X yN bt mx hh y ∈ xj_ws X yN bt mx hh cm y)
  by_cases hhy : hh y = []
  · simp only [xj_wd, hhy, if_true] at hw
    have h9 := B.noHandlers hw
    rw [hhy]
    simpa [tableOf] using h9
  · simp only [xj_wd, hhy, if_false] at hw
    exact vx_table (x := yN y) B hw
theorem xj_ctr (hFS : xj_FS X yN bt mx hh cm wk cl stL ncL ex l n) {d y : Nat} {av : List Value} {w w1 : xj_W} {v : Option Value} {dc dz : Nat} (h : xj_run X n d y 0 (lv_args 0 av) [] w = some (.inl v, w1, dc, dz)) (hone : xj_one av = true) (hlen : av.length ≤ mx y) (hpl : plainFor (yN y) = true ∧ (hh y ≠ [] → plainName (yN y).cls = true)) (D : va_G) (cA : FieldType → ClassId) (sz : Nat) (ad : Nat → Nat) :
    Met l (yN y) (xj_ws X yN bt mx hh cm y) (xj_rm d dc dz) (xj_Pc X D cl cA sz wk stL ncL ad av w) (xj_Qr D cl cA (fun q => sz ≤ q) w.1.length ad v w1) dc dz (fun q => sz ≤ q) := by
  have body : ∀ p e s m args below meth c s₁, BodyLoose p l (yN y) (headSpec (xj_ws X yN bt mx hh cm y) (xj_rm d dc dz)) (bt y) (mx y) (xj_mt X y).2 e s m args below meth c s₁ → c.maxLocals = mx y → xj_Pc X D cl cA sz wk stL ncL ad av w args s →
      W p l e (headSpec (xj_ws X yN bt mx hh cm y) (xj_rm d dc dz)).room s m args below meth c s.heap [] 0 0 (MQ below (xj_Qr D cl cA (fun q => sz ≤ q) w.1.length ad v w1) args s dc dz (fun q => sz ≤ q)) (entryFrame m args (mx y)) := by
    intro p e s m args below meth c s₁ B hml hv
    obtain ⟨rfl, hF, hsz, hP, hD⟩ := hv
    have hAt := xj_at_of B hml
    have hl0 := lv_entry (av.map (xj_cv ad)) (n := mx y) (by rw [xj_slots ad av hone]; exact hlen)
    rw [lg_entry_eq]
    generalize (lg_sl (av.map (xj_cv ad)) ++ List.replicate (mx y - (lg_sl (av.map (xj_cv ad))).length) Slot.unset).toArray = la at hl0 ⊢
    rw [xj_args] at hl0
    have hgo := hFS d y 0 (lv_args 0 av) [] w (.inl v) w1 dc dz h D cA sz p e (headSpec (xj_ws X yN bt mx hh cm y) (xj_rm d dc dz)).room s m (av.map (xj_cv ad)).toArray below meth c 0 0 w.1.length (MQ below (xj_Qr D cl cA (fun q => sz ≤ q) w.1.length ad v w1) (av.map (xj_cv ad)).toArray s (0 + dc) (0 + dz) (fun q => sz ≤ q)) ad ad hAt hF hsz (Nat.le_refl _) xj_ag.rf
      (Nat.le_refl (d + 9)) (Nat.le_refl (48 * d + 160)) (by rw [Nat.zero_add]; exact Nat.le_refl dc) (by rw [Nat.zero_add]; exact Nat.le_refl dz)
      (fun ad1 H locs la1 pc nx i st hag1 hP1 hD1 hS1 hd1 he1 => xj_rt hAt.1 hAt.2.1 hAt.2.2.2.1 hAt.2.2.2.2.1 he1 hd1 (fun v9 hv9 t ht hW => by
        cases hv9
        exact ⟨ad1, hag1, rfl, by rw [ht]; exact hP1, hD1, hS1.F ht⟩) hS1.2.2)
    have hW := hgo s.heap [] la hl0 hP hD va_S.rf
    rw [Nat.zero_add, Nat.zero_add] at hW
    exact hW
  by_cases hhy : hh y = []
  · exact xj_ofW (cc := bt y) (maxL := mx y) (ret := (xj_mt X y).2) (ws' := cm) hpl.1 (by simp only [xj_ws, xj_wd, hhy, if_true]) body
  · exact va_MetW (cc := bt y) (maxL := mx y) (ret := (xj_mt X y).2) (hh := hh y) (ws' := cm) (hpl.2 hhy) (by simp only [xj_ws, xj_wd, hhy, if_false]) body
theorem xj_ctrX (hFS : xj_FS X yN bt mx hh cm wk cl stL ncL ex l n) {d y : Nat} {av : List Value} {w w1 : xj_W} {q : Nat} {dc dz : Nat} (h : xj_run X n d y 0 (lv_args 0 av) [] w = some (.inr q, w1, dc, dz)) (hone : xj_one av = true) (hlen : av.length ≤ mx y) (hpl : plainName (yN y).cls = true) (hhy : hh y = []) (D : va_G) (cA : FieldType → ClassId) (sz : Nat) (ad : Nat → Nat) :
    vx_Met l (yN y) (xj_ws X yN bt mx hh cm y) (xj_rm d dc dz) (xj_Pc X D cl cA sz wk stL ncL ad av w) xj_No (xj_XC D cl cA (fun q => sz ≤ q) (ex q).1 w.1.length ad w1) dc dz (fun q => sz ≤ q) := by
  refine vx_ofW (cc := bt y) (maxL := mx y) (ret := (xj_mt X y).2) (ws' := cm) hpl (by simp only [xj_ws, xj_wd, hhy, if_true]) ?_
  intro p e s m args below meth c s₁ B hml _ hv
  obtain ⟨rfl, hF, hsz, hP, hD⟩ := hv
  have hAt := xj_at_of B hml
  have hl0 := lv_entry (av.map (xj_cv ad)) (n := mx y) (by rw [xj_slots ad av hone]; exact hlen)
  rw [lg_entry_eq]
  generalize (lg_sl (av.map (xj_cv ad)) ++ List.replicate (mx y - (lg_sl (av.map (xj_cv ad))).length) Slot.unset).toArray = la at hl0 ⊢
  rw [xj_args] at hl0
  have hgo := hFS d y 0 (lv_args 0 av) [] w (.inr q) w1 dc dz h D cA sz p e (headSpec (xj_ws X yN bt mx hh cm y) (xj_rm d dc dz)).room s m (av.map (xj_cv ad)).toArray below meth c 0 0 w.1.length (vx_MQ below xj_No (xj_XC D cl cA (fun q => sz ≤ q) (ex q).1 w.1.length ad w1) (av.map (xj_cv ad)).toArray s (0 + dc) (0 + dz) (fun q => sz ≤ q)) ad ad hAt hF hsz (Nat.le_refl _) xj_ag.rf
    (Nat.le_refl (d + 9)) (Nat.le_refl (48 * d + 160)) (by rw [Nat.zero_add]; exact Nat.le_refl dc) (by rw [Nat.zero_add]; exact Nat.le_refl dz) rfl
  have hW := hgo s.heap [] la hl0 hP hD va_S.rf
  rw [Nat.zero_add, Nat.zero_add] at hW
  exact hW
theorem xj_inv_len {mi kd y : Nat} {i : Instr} {st av rest : List Value} {w : xj_W} (hi : xj_inv X mi i st w = some (kd, y, av, rest)) : ∃ ix k, xj_ml X mi ix = some (kd, y, k) ∧ kd < 3 ∧ av.length = k + (if kd = 0 then 0 else 1) := by
  unfold xj_inv at hi
  split at hi
  · rename_i ix
    split at hi
    · rename_i y' k' hmlk
      split at hi
      · rename_i hc
        simp only [Option.some.injEq, Prod.mk.injEq] at hi
        obtain ⟨rfl, rfl, rfl, rfl⟩ := hi
        refine ⟨ix, k', hmlk, by omega, ?_⟩
        rw [List.length_reverse, List.length_take]
        simp only [if_true]
        omega
      · cases hi
    · cases hi
  · rename_i ix
    split at hi
    · rename_i y' k' hmlk
      split at hi
      · rename_i b r hdrop
        split at hi
        · split at hi
          · simp only [Option.some.injEq, Prod.mk.injEq] at hi
            obtain ⟨rfl, rfl, rfl, rfl⟩ := hi
            refine ⟨ix, k', hmlk, by omega, ?_⟩
            have h9 : (st.drop k').length = r.length + 1 := by rw [hdrop]; rfl
            rw [List.length_drop] at h9
            rw [List.length_cons, List.length_reverse, List.length_take]
            simp only [Nat.succ_ne_zero, if_false]
            omega
          · cases hi
        · cases hi
      · cases hi
    · cases hi
  · rename_i ix
    split at hi
    · rename_i y' k' hmlk
      split at hi
      · rename_i b r hdrop
        split at hi
        · simp only [Option.some.injEq, Prod.mk.injEq] at hi
          obtain ⟨rfl, rfl, rfl, rfl⟩ := hi
          refine ⟨ix, k', hmlk, by omega, ?_⟩
          have h9 : (st.drop k').length = r.length + 1 := by rw [hdrop]; rfl
          rw [List.length_drop] at h9
          rw [List.length_cons, List.length_reverse, List.length_take]
          have : ¬ (2 : Nat) = 0 := by omega
          simp only [this, if_false]
          omega
        · cases hi
      · cases hi
    · cases hi
  · cases hi
end XJ9
