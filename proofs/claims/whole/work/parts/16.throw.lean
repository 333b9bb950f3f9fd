/-! calls that throw, throws, catches, new cells -/
section XJ7
variable {p : Program} {l : Launch} {e : Env} {R : Room} {s : State} {m : MethodId} {args : Array Value} {below : List Frame} {meth : Method} {c : Code} {H : Heap} {locs : List Loc} {cells slots : Nat} {Q : State → Prop}
variable {D : va_G} {cl : List vw_C} {cA : FieldType → ClassId} {sz : Nat} {nL n mc ms pc d : Nat} {ad : Nat → Nat} {la : Array Slot} {rest av : List Value} {a : Array Value} {w w1 : xj_W}
variable {X : xj_T} {yN : Nat → MethodName} {bt : Nat → ByteArray} {mx : Nat → Nat} {hh : Nat → List (Nat × Nat × Nat × Nat)} {cm wk : List Jvm.Cond} {stL : List (String × Nat × String)} {ncL : List (String × String)} {mi ix kd y k : Nat} {cc : ByteArray}
theorem xj_retX {E0 : String} {st : List Value} {i : Instr} {nx : Nat} (hx : p.tables.exec = Jvm.exec) (hb : c.code = cc) (hml : c.maxLocals = nL) (hown : s.vm.findClass (yN mi).cls = some m.cls) (hts : ∀ w ∈ cm, w.before args s = true) (hg : cm.all goodWord = true) (hwk : xj_Wk wk)
    (hF : xj_Fx X D cl cA (fun q => sz ≤ q) wk stL ncL ad s s.heap) (hsz : sz ≤ s.heap.size) (hP : va_P D cl (xj_cw ad cA w) H) (hD : va_D (fun q => sz ≤ q) (xj_cw ad cA w)) (hS : va_S (fun q => sz ≤ q) s.heap H locs) (hla : la.size = nL)
    (hGM : ∀ ix kd y k, xj_ml X mi ix = some (kd, y, k) → kd < 3 → xj_GM X yN bt mx hh cm cl wk mi ix kd y k)
    (hd : xj_dec cc nL pc i nx) (hi : xj_inv X mi i st w = some (1, y, av, rest))
    (hM : vx_Met l (yN y) (xj_ws X yN bt mx hh cm y) (xj_rm d mc ms) (xj_Pc X D cl cA sz wk stL ncL ad av w) xj_No (xj_XC D cl cA (fun q => sz ≤ q) E0 n ad w1) mc ms (fun q => sz ≤ q))
    (hRf : d + 10 ≤ R.frames) (hRl : 48 * d + 208 ≤ R.locals) (hRc : cells + mc ≤ R.cells) (hRs : slots + ms ≤ R.slots) :
    vx_Run p l e R s m args below meth c H locs cells slots mc ms (F0 m pc la (st.map (xj_cv ad))) (rest.map (xj_cv ad)) (xj_No (av.map (xj_cv ad)).toArray) (xj_XC D cl cA (fun q => sz ≤ q) E0 n ad w1) (fun q => sz ≤ q) := by
  obtain ⟨len, hdec, hfit⟩ := hd
  have hwin : ∀ {y : Nat}, xj_wd X yN bt mx hh y ∈ cm → ∀ w ∈ xj_ws X yN bt mx hh cm y, w ∈ cm := by
    intro y h w hw
    rcases List.mem_cons.mp hw with rfl | hw
    · exact h
    · exact hw
  have S : CallFix p m c cc nL s args cm (yN mi).cls := ⟨hx, hb, hml, hown, hts⟩
  unfold xj_inv at hi
  split at hi
  · split at hi
    · split at hi
      · simp only [Option.some.injEq, Prod.mk.injEq] at hi
        exact absurd hi.1 (by decide)
      · cases hi
    · cases hi
  · rename_i ix
    split at hi
    · rename_i y' k' hmlk
      split at hi
      · rename_i b r hdrop
        split at hi
        · rename_i cj fs hsh
          split at hi
          · rename_i hcond
            simp only [Option.some.injEq, Prod.mk.injEq] at hi
            obtain ⟨-, rfl, rfl, rfl⟩ := hi
            simp only [xj_fit, Bool.and_eq_true, decide_eq_true_eq] at hfit
            obtain ⟨rfl, rfl⟩ := hfit
            obtain ⟨g1, g2, g3, g4, g5, g6, g7, -, g9, -, g11⟩ := hGM _ _ _ _ hmlk (by omega)
            obtain ⟨hhy, gi, gs, T9, N9, gcl⟩ := g9 rfl
            have hGood := xj_good hg (hwin g4)
            have hkl : k' < st.length := by
              have h9 : (st.drop k').length = r.length + 1 := by rw [hdrop]; rfl
              rw [List.length_drop] at h9
              omega
            have hlen : ((st.take k').reverse.map (xj_cv ad)).length = k' := by rw [List.length_map, List.length_reverse, List.length_take]; omega
            have hst : st.map (xj_cv ad) = ((st.take k').reverse.map (xj_cv ad)).reverse ++ .ref (ad b) :: r.map (xj_cv ad) := by
              rw [← List.map_reverse, List.reverse_reverse]
              have h9 : (.ref (ad b) :: r.map (xj_cv ad) : List Value) = (st.drop k').map (xj_cv ad) := by rw [hdrop]; rfl
              rw [h9, ← List.map_append, List.take_append_drop]
            have hsum := xj_lsum (ad := ad) r
            have hm0 : (F0 m pc la (st.map (xj_cv ad))).monitorRoom = 0 := rfl
            have hW8 : 2 * (F0 m pc la (st.map (xj_cv ad))).monitorRoom + ((r.map (xj_cv ad)).map fun v => v.category).sum ≤ 8 := by rw [hm0, hsum]; omega
            have hroom : (xj_rm d mc ms).frames + 1 ≤ R.frames ∧ 8 + (mx y' + 11) + (xj_rm d mc ms).locals ≤ R.locals := by
              simp only [xj_rm]; omega
            have hwd : xj_ws X yN bt mx hh cm y' = Jvm.Cond.code (yN y') (bt y') (mx y') (xj_mt X y').2 :: cm := by simp only [xj_ws, xj_wd, hhy, if_true]
            have hpv : PreV s H (yN y').cls (ad b) (xj_Pc X D cl cA sz wk stL ncL ad (.ref b :: (st.take k').reverse) w) ((st.take k').reverse.map (xj_cv ad)) :=
              ⟨xj_Pc.blind hwk, xj_recv hF.1 hP hsh (by rw [hcond.1]; exact gcl), xj_pre hwk hF hsz hP hD hS⟩
            rcases g11 with g11 | ⟨g11, -⟩
            · exact vx_runV S hM ⟨callB_of k' hts hGood hwd rfl rfl (hts _ g5) (hts _ g11) ⟨g6.1, g6.2, g7⟩ hroom, hts _ gi, hts _ gs⟩ hpv rfl hlen hla hst hW8 hdec ⟨hRc, hRs⟩
            · exact absurd rfl g11
          · cases hi
        · cases hi
      · cases hi
    · cases hi
  · split at hi
    · split at hi
      · split at hi
        · simp only [Option.some.injEq, Prod.mk.injEq] at hi
          exact absurd hi.1 (by decide)
        · cases hi
      · cases hi
    · cases hi
  · cases hi
/-- a throw's words -/
def xj_GT (yN : Nat → MethodName) (bt : Nat → ByteArray) (hh : Nat → List (Nat × Nat × Nat × Nat)) (cm wk : List Jvm.Cond) (stL : List (String × Nat × String)) (ex : Nat → String × List String) (mi pc q : Nat) : Prop :=
  ∃ (ik is ic ix : Nat) (rx : ByteArray) (text : String), decode rx 0 = .ok (.aload_n 0, 1) ∧ decode rx 1 = .ok (.aload_n 1, 1) ∧ decode rx 2 = .ok (.invokespecial ix, 3) ∧ decode rx 5 = .ok (.return_, 1) ∧ hh mi = [] ∧ decode (bt mi) pc = .ok (.new ik, 3) ∧ decode (bt mi) (pc + 3) = .ok (.dup, 1) ∧ decode (bt mi) (pc + 4) = .ok (.ldc is, 2) ∧ decode (bt mi) (pc + 6) = .ok (.invokespecial ic, 3) ∧ decode (bt mi) (pc + 9) = .ok (.athrow, 1) ∧
    Bundle.fit (ex q).1 = true ∧ (∀ n ∈ (ex q).2, Bundle.fit n = true) ∧ (ex q).2.length ≤ 4 ∧ Jvm.Cond.classLink (yN mi).cls ik (ex q).1 ∈ cm ∧ Jvm.Cond.initialized (ex q).1 ∈ cm ∧ ((yN mi).cls, is, text) ∈ stL ∧
    (∀ w ∈ xj_atX (yN mi).cls ic (ex q).1 ix rx (ex q).2, w ∈ cm ∨ w ∈ wk) ∧ (∀ w ∈ Jvm.Cond.classLink (yN mi).cls ik (ex q).1 :: Jvm.Cond.initialized (ex q).1 :: xj_atX (yN mi).cls ic (ex q).1 ix rx (ex q).2, vx_ot w = true)
theorem xj_thw {ex : Nat → String × List String} {q n0 : Nat} {ad0 : Nat → Nat} (hx : p.tables.exec = Jvm.exec) (hb : c.code = bt mi) (hml : c.maxLocals = nL) (hlocks : meth.locks = false) (hown : s.vm.findClass (yN mi).cls = some m.cls) (hts : ∀ w ∈ cm, w.before args s = true) (hwk : xj_Wk wk) (hl : l.stackTraces = false) (htab : hh mi = [] → c.exceptionTable.toList = [])
    (hF : xj_Fx X D cl cA (fun q => sz ≤ q) wk stL ncL ad s s.heap) (hP : va_P D cl (xj_cw ad cA w) H) (hD : va_D (fun q => sz ≤ q) (xj_cw ad cA w)) (hS : va_S (fun q => sz ≤ q) s.heap H locs) (hla : la.size = nL) (hag : xj_ag n0 ad0 ad)
    (hGT : xj_GT yN bt hh cm wk stL ex mi pc q) (hRf : 9 ≤ R.frames) (hRl : 160 ≤ R.locals) (hRc : cells + 1 ≤ R.cells) (hRs : slots + 6 ≤ R.slots) :
    W p l e R s m args below meth c H locs cells slots (vx_MQ below xj_No (xj_XC D cl cA (fun q => sz ≤ q) (ex q).1 n0 ad0 w) args s (cells + 1) (slots + 6) (fun q => sz ≤ q)) (F0 m pc la []) := by
  obtain ⟨ik, is, ic, ix, rx, text, x0, x1, x2, x5, hhm, d0, d3, d4, d6, d9, f1, f2, f3, w1, w2, w3, w4, w5⟩ := hGT
  obtain ⟨sa, hsa⟩ := hF.2.2.2.2.2.2.1 _ w3
  refine xj_throwX hx hb hl x0 x1 x2 x5 hown f1 f2 (hts _ w1) (hts _ w2) hsa (fun w hw => ?_) w5 hF.2.2.2.2.1 hF.2.2.2.2.2.1 hS (hla.trans hml.symm) d0 d3 d4 d6 d9 (fun x hx9 => by rw [htab hhm] at hx9; cases hx9) (by omega) (by simp only [List.map_nil, List.sum_nil]; omega) hRc hRs hlocks ?_ hS.2.2 (Nat.le_refl _) (Nat.le_refl _)
  · rcases w4 w hw with h | h
    · exact hts _ h
    · exact va_Nw.use (hwk w h).1 (hF.2.2.2.1 w h)
  · intro t hvm hsz9 hk9
    refine ⟨rfl, ad, hag, ?_, hD, ?_⟩
    · exact hP.kept fun k q9 hq9 => hk9 _ (hP k q9 hq9).lt
    · exact ⟨Nat.le_trans hS.1 hsz9, fun q9 h1 h2 => by rw [hk9 q9 (Nat.lt_of_lt_of_le h1 hS.1)]; exact hS.2.1 q9 h1 h2⟩
end XJ7
