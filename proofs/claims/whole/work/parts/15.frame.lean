/-! what the tables owe, said once for all methods; a call of ours, walked -/
/-- the word on a method's code -/
def xj_wd (X : xj_T) (yN : Nat → MethodName) (bt : Nat → ByteArray) (mx : Nat → Nat) (hh : Nat → List (Nat × Nat × Nat × Nat)) (y : Nat) : Jvm.Cond := if hh y = [] then .code (yN y) (bt y) (mx y) (xj_mt X y).2 else .codeWith (yN y) (bt y) (mx y) (xj_mt X y).2 (hh y)
def xj_ws (X : xj_T) (yN : Nat → MethodName) (bt : Nat → ByteArray) (mx : Nat → Nat) (hh : Nat → List (Nat × Nat × Nat × Nat)) (cm : List Jvm.Cond) (y : Nat) : List Jvm.Cond := xj_wd X yN bt mx hh y :: cm
/-- a call's words -/
def xj_GM (X : xj_T) (yN : Nat → MethodName) (bt : Nat → ByteArray) (mx : Nat → Nat) (hh : Nat → List (Nat × Nat × Nat × Nat)) (cm : List Jvm.Cond) (cl : List vw_C) (wk : List Jvm.Cond) (mi ix kd y k : Nat) : Prop :=
  (plainFor (yN y) = true ∧ (kd ≠ 0 ∨ hh y ≠ [] → plainName (yN y).cls = true)) ∧ mx y ≤ 29 ∧ k + 1 ≤ mx y + (if kd = 0 then 1 else 0) ∧ xj_wd X yN bt mx hh y ∈ cm ∧ Jvm.Cond.initialized (yN y).cls ∈ cm ∧ ((yN y).cls ≠ "java/lang/invoke/MethodHandle" ∧ (yN y).cls ≠ "java/lang/invoke/VarHandle") ∧ (parseMethodDescriptor (yN y).desc).map (fun d => d.parameters.length) = some k ∧
  (kd = 0 → Jvm.Cond.static (yN y) ∈ cm) ∧
  (kd = 1 → hh y = [] ∧ Jvm.Cond.instanceMethod (yN y) ∈ cm ∧ Jvm.Cond.selects (yN y).cls (yN y) (yN y) ∈ cm ∧ ∃ T N, cl[(xj_mt X y).1]? = some ((yN y).cls, T, N)) ∧
  (kd = 2 → hh y = [] ∧ (yN y).name = "<init>" ∧ Jvm.Cond.instanceMethod (yN y) ∈ cm ∧ (xj_mt X y).2 = none) ∧
  (Jvm.Cond.methodLink (yN mi).cls ix (yN y) ∈ cm ∨ (kd ≠ 1 ∧ hh y = [] ∧ ∃ host, Jvm.Cond.methodLinkNest (yN mi).cls ix (yN y) host ∈ wk))
section XJ6
variable {p : Program} {l : Launch} {e : Env} {R : Room} {s : State} {m : MethodId} {args : Array Value} {below : List Frame} {meth : Method} {c : Code} {H : Heap} {locs : List Loc} {cells slots : Nat} {Q : State → Prop}
variable {D : va_G} {cl : List vw_C} {cA : FieldType → ClassId} {sz : Nat} {nL n mc ms pc d : Nat} {ad : Nat → Nat} {la : Array Slot} {rest av : List Value} {a : Array Value} {w w1 : xj_W}
variable {X : xj_T} {yN : Nat → MethodName} {bt : Nat → ByteArray} {mx : Nat → Nat} {hh : Nat → List (Nat × Nat × Nat × Nat)} {cm wk : List Jvm.Cond} {stL : List (String × Nat × String)} {ncL : List (String × String)} {mi ix kd y k : Nat} {cc : ByteArray}
theorem xj_good (hg : cm.all goodWord = true) {u : List Jvm.Cond} (hu : ∀ w ∈ u, w ∈ cm) : GoodIn cm u := fun w hw => ⟨hu w hw, good_of_word (List.all_eq_true.mp hg w (hu w hw))⟩
theorem xj_pre (hwk : xj_Wk wk) (hF : xj_Fx X D cl cA (fun q => sz ≤ q) wk stL ncL ad s s.heap) (hsz : sz ≤ s.heap.size) (hP : va_P D cl (xj_cw ad cA w) H) (hD : va_D (fun q => sz ≤ q) (xj_cw ad cA w)) (hS : va_S (fun q => sz ≤ q) s.heap H locs) : ∀ U : State, U.heap = H → s.WarmedH U.vm → xj_Pc X D cl cA sz wk stL ncL ad av w (av.map (xj_cv ad)).toArray U := by
  intro U hU hW
  refine ⟨rfl, ?_, ?_, ?_, hD⟩
  · rw [hU]
    exact xj_Fx.go hwk hF hW hS.2.1
  · rw [hU]; exact Nat.le_trans hsz hS.1
  · rw [hU]; exact hP
/-- the receiver's class -/
theorem xj_recv (hK : va_K D cl (xj_ty cA) s) (hP : va_P D cl (xj_cw ad cA w) H) {a cj : Nat} {fs : List Value} (hsh : w.1[a]? = some (.inr (cj, fs))) {C : String} {T : u_T} {N : Nat} (hcl : cl[cj]? = some (C, T, N)) : ∃ cellB : Cell, H[ad a]? = some cellB ∧ cellB.vm.isStatics = false ∧ s.vm.findClass C = some cellB.cls := by
  obtain ⟨r, h1, cell, q1, q2, q3, -⟩ := hP a _ (xj_cw_at hsh)
  have hr : r = (C, T, N) := Option.some.inj (h1.symm.trans hcl)
  subst hr
  obtain ⟨-, hfc, -⟩ := hK.1 cj _ hcl
  exact ⟨cell, q1, by rw [q3]; rfl, by rw [q2]; exact hfc⟩
theorem xj_lsum (r : List Value) : ((r.map (xj_cv ad)).map fun v => v.category).sum = (r.map fun v => v.category).sum := by
  rw [List.map_map]
  congr 1
  apply List.map_congr_left
  intro v _
  exact xj_cv_cat ad v
/-- a call that returns -/
theorem xj_ret {v : Option Value} {st : List Value} {i : Instr} {nx : Nat} (hx : p.tables.exec = Jvm.exec) (hb : c.code = cc) (hml : c.maxLocals = nL) (hown : s.vm.findClass (yN mi).cls = some m.cls) (hts : ∀ w ∈ cm, w.before args s = true) (hg : cm.all goodWord = true) (hwk : xj_Wk wk)
    (hF : xj_Fx X D cl cA (fun q => sz ≤ q) wk stL ncL ad s s.heap) (hsz : sz ≤ s.heap.size) (hP : va_P D cl (xj_cw ad cA w) H) (hD : va_D (fun q => sz ≤ q) (xj_cw ad cA w)) (hS : va_S (fun q => sz ≤ q) s.heap H locs) (hla : la.size = nL)
    (hGM : ∀ ix kd y k, xj_ml X mi ix = some (kd, y, k) → kd < 3 → xj_GM X yN bt mx hh cm cl wk mi ix kd y k)
    (hd : xj_dec cc nL pc i nx) (hi : xj_inv X mi i st w = some (kd, y, av, rest))
    (hM : Met l (yN y) (xj_ws X yN bt mx hh cm y) (xj_rm d mc ms) (xj_Pc X D cl cA sz wk stL ncL ad av w) (xj_Qr D cl cA (fun q => sz ≤ q) n ad v w1) mc ms (fun q => sz ≤ q))
    (hRf : d + 10 ≤ R.frames) (hRl : 48 * d + 208 ≤ R.locals) (hRc : cells + mc ≤ R.cells) (hRs : slots + ms ≤ R.slots) :
    va_Run p l e R s m args below meth c H locs cells slots mc ms (F0 m pc la (st.map (xj_cv ad))) (rest.map (xj_cv ad)) (xj_Qr D cl cA (fun q => sz ≤ q) n ad v w1 (av.map (xj_cv ad)).toArray) (fun q => sz ≤ q) ∧ nx = pc + 3 := by
  obtain ⟨len, hdec, hfit⟩ := hd
  have hwin : ∀ {y : Nat}, xj_wd X yN bt mx hh y ∈ cm → ∀ w ∈ xj_ws X yN bt mx hh cm y, w ∈ cm := by
    intro y h w hw
    rcases List.mem_cons.mp hw with rfl | hw
    · exact h
    · exact hw
  have S : CallFix p m c cc nL s args cm (yN mi).cls := ⟨hx, hb, hml, hown, hts⟩
  unfold xj_inv at hi
  split at hi
  · rename_i ix
    split at hi
    · rename_i y' k' hmlk
      split at hi
      · rename_i hcond
        simp only [Option.some.injEq, Prod.mk.injEq] at hi
        obtain ⟨rfl, rfl, rfl, rfl⟩ := hi
        simp only [xj_fit, Bool.and_eq_true, decide_eq_true_eq] at hfit
        obtain ⟨rfl, rfl⟩ := hfit
        obtain ⟨g1, g2, g3, g4, g5, g6, g7, g8, -, -, g11⟩ := hGM _ _ _ _ hmlk (by omega)
        refine ⟨?_, rfl⟩
        have hGood := xj_good hg (hwin g4)
        have hlen : ((st.take k').reverse.map (xj_cv ad)).length = k' := by rw [List.length_map, List.length_reverse, List.length_take]; omega
        have hst : st.map (xj_cv ad) = ((st.take k').reverse.map (xj_cv ad)).reverse ++ (st.drop k').map (xj_cv ad) := by
          rw [← List.map_reverse, List.reverse_reverse, ← List.map_append, List.take_append_drop]
        have hsum := xj_lsum (ad := ad) (st.drop k')
        have hm0 : (F0 m pc la (st.map (xj_cv ad))).monitorRoom = 0 := rfl
        have hW8 : 2 * (F0 m pc la (st.map (xj_cv ad))).monitorRoom + (((st.drop k').map (xj_cv ad)).map fun v => v.category).sum ≤ 8 := by rw [hm0, hsum]; omega
        have hps : PreS s H (xj_Pc X D cl cA sz wk stL ncL ad (st.take k').reverse w) ((st.take k').reverse.map (xj_cv ad)) := ⟨xj_Pc.blind hwk, xj_pre hwk hF hsz hP hD hS⟩
        have hroom : (xj_rm d mc ms).frames + 1 ≤ R.frames ∧ 8 + (mx y' + 11) + (xj_rm d mc ms).locals ≤ R.locals := by
          simp only [xj_rm]; omega
        by_cases hhy : hh y' = []
        · have hwd : xj_ws X yN bt mx hh cm y' = Jvm.Cond.code (yN y') (bt y') (mx y') (xj_mt X y').2 :: cm := by simp only [xj_ws, xj_wd, hhy, if_true]
          rcases g11 with g11 | ⟨-, -, host, g11⟩
          · exact va_runS S hM ⟨callB_of k' hts hGood hwd rfl rfl (hts _ g5) (hts _ g11) ⟨g6.1, g6.2, g7⟩ hroom, hts _ (g8 rfl)⟩ hps rfl hlen hla hst hW8 hdec ⟨hRc, hRs⟩
          · exact va_runSN S hM ⟨va_cnB k' hts hGood hwd rfl rfl (hF.2.2.2.1 _ g11) (hts _ g5) ⟨g6.1, g6.2, g7⟩ hroom, hts _ (g8 rfl), trivial⟩ hps rfl hlen hla hst hW8 hdec ⟨hRc, hRs⟩
        · have hwd : xj_ws X yN bt mx hh cm y' = Jvm.Cond.codeWith (yN y') (bt y') (mx y') (xj_mt X y').2 (hh y') :: cm := by simp only [xj_ws, xj_wd, hhy, if_false]
          rcases g11 with g11 | ⟨-, g11, -⟩
          · refine vx_runSW S hM (vx_cwSW k' hts (xj_good hg ?_) hwd rfl rfl ⟨g6.1, g6.2, g7⟩ hroom) hps rfl hlen hla hst hW8 hdec ⟨hRc, hRs⟩
            intro w hw
            rcases List.mem_append.mp hw with hw | hw
            · simp only [List.mem_cons, List.not_mem_nil, or_false] at hw
              rcases hw with rfl | rfl | rfl
              · exact g11
              · exact g8 rfl
              · exact g5
            · exact hwin g4 w hw
          · exact absurd g11 hhy
      · cases hi
    · cases hi
  · rename_i ix
    split at hi
    · rename_i y' k' hmlk
      split at hi
      · rename_i b r hdrop
        split at hi
        · rename_i cj fs hsh
          split at hi
          · rename_i hcond
            simp only [Option.some.injEq, Prod.mk.injEq] at hi
            obtain ⟨rfl, rfl, rfl, rfl⟩ := hi
            simp only [xj_fit, Bool.and_eq_true, decide_eq_true_eq] at hfit
            obtain ⟨rfl, rfl⟩ := hfit
            obtain ⟨g1, g2, g3, g4, g5, g6, g7, -, g9, -, g11⟩ := hGM _ _ _ _ hmlk (by omega)
            obtain ⟨hhy, gi, gs, T9, N9, gcl⟩ := g9 rfl
            refine ⟨?_, rfl⟩
            have hGood := xj_good hg (hwin g4)
            have hkl : k' < st.length := by
              have h9 : (st.drop k').length = r.length + 1 := by rw [hdrop]; rfl
              rw [List.length_drop] at h9
              omega
            have hlen : ((st.take k').reverse.map (xj_cv ad)).length = k' := by rw [List.length_map, List.length_reverse, List.length_take]; omega
            have hst : st.map (xj_cv ad) = ((st.take k').reverse.map (xj_cv ad)).reverse ++ .ref (ad b) :: r.map (xj_cv ad) := by
              rw [← List.map_reverse, List.reverse_reverse]
              have h9 : (.ref (ad b) :: r.map (xj_cv ad) : List Value) = (st.drop k').map (xj_cv ad) := by rw [hdrop]; rfl
              rw [h9, ← List.map_append, List.take_append_drop]
            have hsum := xj_lsum (ad := ad) r
            have hm0 : (F0 m pc la (st.map (xj_cv ad))).monitorRoom = 0 := rfl
            have hW8 : 2 * (F0 m pc la (st.map (xj_cv ad))).monitorRoom + ((r.map (xj_cv ad)).map fun v => v.category).sum ≤ 8 := by rw [hm0, hsum]; omega
            have hroom : (xj_rm d mc ms).frames + 1 ≤ R.frames ∧ 8 + (mx y' + 11) + (xj_rm d mc ms).locals ≤ R.locals := by
              simp only [xj_rm]; omega
            have hwd : xj_ws X yN bt mx hh cm y' = Jvm.Cond.code (yN y') (bt y') (mx y') (xj_mt X y').2 :: cm := by simp only [xj_ws, xj_wd, hhy, if_true]
            have hpv : PreV s H (yN y').cls (ad b) (xj_Pc X D cl cA sz wk stL ncL ad (.ref b :: (st.take k').reverse) w) ((st.take k').reverse.map (xj_cv ad)) :=
              ⟨xj_Pc.blind hwk, xj_recv hF.1 hP hsh (by rw [hcond.1]; exact gcl), xj_pre hwk hF hsz hP hD hS⟩
            rcases g11 with g11 | ⟨g11, -⟩
            · exact va_runV S hM ⟨callB_of k' hts hGood hwd rfl rfl (hts _ g5) (hts _ g11) ⟨g6.1, g6.2, g7⟩ hroom, hts _ gi, hts _ gs⟩ hpv rfl hlen hla hst hW8 hdec ⟨hRc, hRs⟩
            · exact absurd rfl g11
          · cases hi
        · cases hi
      · cases hi
    · cases hi
  · rename_i ix
    split at hi
    · rename_i y' k' hmlk
      split at hi
      · rename_i b r hdrop
        split at hi
        · rename_i hcond
          simp only [Option.some.injEq, Prod.mk.injEq] at hi
          obtain ⟨rfl, rfl, rfl, rfl⟩ := hi
          simp only [xj_fit, Bool.and_eq_true, decide_eq_true_eq] at hfit
          obtain ⟨rfl, rfl⟩ := hfit
          obtain ⟨g1, g2, g3, g4, g5, g6, g7, -, -, g10, g11⟩ := hGM _ _ _ _ hmlk (by omega)
          obtain ⟨hhy, gn, gi, gr⟩ := g10 rfl
          refine ⟨?_, rfl⟩
          have hGood := xj_good hg (hwin g4)
          have hkl : k' < st.length := by
            have h9 : (st.drop k').length = r.length + 1 := by rw [hdrop]; rfl
            rw [List.length_drop] at h9
            omega
          have hlen : ((st.take k').reverse.map (xj_cv ad)).length = k' := by rw [List.length_map, List.length_reverse, List.length_take]; omega
          have hst : st.map (xj_cv ad) = ((st.take k').reverse.map (xj_cv ad)).reverse ++ .ref (ad b) :: r.map (xj_cv ad) := by
            rw [← List.map_reverse, List.reverse_reverse]
            have h9 : (.ref (ad b) :: r.map (xj_cv ad) : List Value) = (st.drop k').map (xj_cv ad) := by rw [hdrop]; rfl
            rw [h9, ← List.map_append, List.take_append_drop]
          have hsum := xj_lsum (ad := ad) r
          have hm0 : (F0 m pc la (st.map (xj_cv ad))).monitorRoom = 0 := rfl
          have hW8 : 2 * (F0 m pc la (st.map (xj_cv ad))).monitorRoom + ((r.map (xj_cv ad)).map fun v => v.category).sum ≤ 8 := by rw [hm0, hsum]; omega
          have hroom : (xj_rm d mc ms).frames + 1 ≤ R.frames ∧ 8 + (mx y' + 11) + (xj_rm d mc ms).locals ≤ R.locals := by
            simp only [xj_rm]; omega
          have hwd : xj_ws X yN bt mx hh cm y' = Jvm.Cond.code (yN y') (bt y') (mx y') none :: cm := by simp only [xj_ws, xj_wd, hhy, if_true, gr]
          have hps : PreS s H (xj_Pc X D cl cA sz wk stL ncL ad (.ref b :: (st.take k').reverse) w) (.ref (ad b) :: (st.take k').reverse.map (xj_cv ad)) := ⟨xj_Pc.blind hwk, xj_pre hwk hF hsz hP hD hS⟩
          rcases g11 with g11 | ⟨-, -, host, g11⟩
          · exact va_runI S hM ⟨callB_of k' hts hGood hwd rfl rfl (hts _ g5) (hts _ g11) ⟨g6.1, g6.2, g7⟩ hroom, gn, hts _ gi⟩ hps rfl hlen hla hst hW8 hdec ⟨hRc, hRs⟩
          · exact va_runIN S hM ⟨va_cnB k' hts hGood hwd rfl rfl (hF.2.2.2.1 _ g11) (hts _ g5) ⟨g6.1, g6.2, g7⟩ hroom, gn, hts _ gi⟩ hps rfl hlen hla hst hW8 hdec ⟨hRc, hRs⟩
        · cases hi
      · cases hi
    · cases hi
  · cases hi
end XJ6
