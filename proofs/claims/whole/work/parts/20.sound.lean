set_option maxHeartbeats 1000000 in
/-- OUR MACHINE's RUNS ARE THE MODEL's: every frame of ours, wherever its cells lie -/
theorem xj_main {X : xj_T} {yN : Nat → MethodName} {bt : Nat → ByteArray} {mx : Nat → Nat} {hh : Nat → List (Nat × Nat × Nat × Nat)} {cm wk : List Jvm.Cond} {cl : List vw_C} {stL : List (String × Nat × String)} {ncL : List (String × String)} {ex : Nat → String × List String} {l : Launch}
    (G : xj_Gl X yN bt mx hh cm wk cl stL ncL ex) (hl : l.stackTraces = false) : ∀ n, xj_FS X yN bt mx hh cm wk cl stL ncL ex l n := by
  obtain ⟨gw, gk, gc, gf, go, ga, gs, gv, gm, gn, gr, gt, gp, gh⟩ := G
  intro n
  induction n with
  | zero => intro d mi pc ls st w o w' dc dz h; simp [xj_run] at h
  | succ n ih =>
    intro d mi pc ls st w o w' dc dz h D cA sz p e R s m args below meth c cells slots n0 Q ad0 ad hAt hF hsz hn0 hag hRf hRl hRc hRs hFin
    have hAt' := hAt
    obtain ⟨hx, hb, hml, hr, hlocks, hown, hname, hts, htab⟩ := hAt
    rw [xj_run_succ] at h
    unfold xj_lay at h
    cases hcd : xj_cd X mi pc with
    | none => simp [hcd] at h
    | some q0 =>
      obtain ⟨i, nx⟩ := q0
      simp only [hcd] at h
      have hdec := gc _ _ _ _ hcd
      cases hs : xj_step X mi i nx pc ls st w with
      | some f =>
        obtain ⟨pc', ls', st', w1⟩ := f
        simp only [hs] at h
        refine xj_snS hx hb hts hown hml hF.1 (by omega) (by omega) ⟨gc mi, ?_, ?_, ?_⟩ ?_ hF.2.1 hcd hs (ih d mi pc' ls' st' w1 o w' dc dz h D cA sz p e R s m args below meth c cells slots n0 Q ad0 ad hAt' hF hsz (by rw [xj_step_len hs]; exact hn0) hag hRf hRl hRc hRs hFin)
        · intro ix ci k so hfl
          obtain ⟨C, T, N, ty0, f1, f2, f3, f4, f5, f6, f7, f8, f9⟩ := gf _ _ _ _ _ hfl
          exact ⟨C, T, N, ty0, f1, f2, f3, f4, f5, hts _ f6, f7, f8, fun q => by rw [hname]; exact f9 q⟩
        · intro ix a b hO
          obtain ⟨o1, o2, o3⟩ := go _ _ _ _ hO
          exact ⟨hts _ o1, hts _ o2, hts _ o3⟩
        · intro ix a b hO
          obtain ⟨o1, o2, o3, o4⟩ := ga _ _ _ _ hO
          exact ⟨hts _ o1, hts _ o2, hts _ o3, hts _ o4⟩
        · intro ix a hg H locs pc9 la rest hS9 hd9 kk
          obtain ⟨rfl, host, hh9⟩ := gs _ _ _ hg
          exact va_getsN hx hb hF.2.2.1 hS9 hown (va_Nw.use (gk _ hh9).1 (hF.2.2.2.1 _ hh9)) (fun _ z => z) hd9 kk
      | none =>
        simp only [hs] at h
        cases hi : xj_inv X mi i st w with
        | some f =>
          obtain ⟨kd, y, av, rest⟩ := f
          simp only [hi] at h
          split at h
          · rename_i hcond
            obtain ⟨hd0, hsf, hone⟩ := hcond
            obtain ⟨ix, k, hmlk, hkd3, hlen⟩ := xj_inv_len hi
            have hGM := gm mi ix kd y k hmlk hkd3
            have hpl := hGM.1
            have hle : av.length ≤ mx y := by
              have h3 := hGM.2.2.1
              rw [hlen]
              by_cases hk0 : kd = 0
              · simp only [hk0, if_true] at h3 ⊢; omega
              · simp only [hk0, if_false] at h3 ⊢; omega
            simp only [xj_safe, Bool.and_eq_true] at hsf
            cases hy : xj_run X n (d - 1) y 0 (lv_args 0 av) [] w with
            | none => simp [hy] at h
            | some f =>
              obtain ⟨o1, w1, c1, z1⟩ := f
              have hgrow := xj_grow X _ _ _ _ _ _ _ _ _ _ _ hy
              simp only [hy] at h
              cases o1 with
              | inl v =>
                simp only at h
                obtain ⟨o2, w2, c2, z2, e1, e2⟩ := xj_add_some h
                simp only [Prod.mk.injEq] at e2
                obtain ⟨rfl, rfl, rfl, rfl⟩ := e2
                have hM := xj_ctr ih hy hone hle ⟨hpl.1, fun q => hpl.2 (Or.inr q)⟩ D cA sz ad
                intro H locs la hl9 hP hD hS
                obtain ⟨hr9, hnx⟩ := xj_ret (d := d - 1) (la := la) (R := R) (e := e) (below := below) (meth := meth) (cells := cells) (slots := slots) hx hb hml hown hts gw gk hF hsz hP hD hS hl9.1 (gm mi) hdec hi hM (by omega) (by omega) (by omega) (by omega)
                subst hnx
                refine xj_cont hr9 hS fun ad' H1 locs1 hag1 hP1 hD1 hS1 => ?_
                have hgo := ih d mi (pc + 3) ls (v.toList ++ rest) w1 o w' c2 z2 e1 D cA sz p e R s m args below meth c (cells + c1) (slots + z1) n0 Q ad0 ad' hAt' (hF.ag gv hag1) hsz (Nat.le_trans hn0 hgrow) (hag.trans hn0 hag1) hRf hRl (by omega) (by omega) (by rw [Nat.add_assoc, Nat.add_assoc]; exact hFin)
                have k9 := hgo H1 locs1 la (by rw [xj_cl_ag hag1 hsf.1]; exact hl9) hP1 hD1 hS1
                have hst : (v.toList ++ rest).map (xj_cv ad') = (v.map (xj_cv ad')).toList ++ rest.map (xj_cv ad) := by
                  rw [List.map_append, xj_st_ag hag1 hsf.2]
                  cases v <;> rfl
                rw [hst] at k9
                exact k9
              | inr q =>
                simp only at h
                cases hca : xj_ca X mi pc q with
                | none => simp [hca] at h
                | some hp0 =>
                  cases hp0 with
                  | none =>
                    simp only [hca] at h
                    split at h
                    · rename_i hkd
                      subst hkd
                      simp only [Option.some.injEq, Prod.mk.injEq] at h
                      obtain ⟨rfl, rfl, rfl, rfl⟩ := h
                      obtain ⟨hhy, -⟩ := hGM.2.2.2.2.2.2.2.2.1 rfl
                      have hM := xj_ctrX ih hy hone hle (hpl.2 (Or.inl (by decide))) hhy D cA sz ad
                      intro H locs la hl9 hP hD hS
                      have hr9 := xj_retX (d := d - 1) (la := la) (R := R) (e := e) (below := below) (meth := meth) (cells := cells) (slots := slots) hx hb hml hown hts gw gk hF hsz hP hD hS hl9.1 (gm mi) hdec hi hM (by omega) (by omega) (by omega) (by omega)
                      have hQ : Q = vx_MQ below xj_No (xj_XC D cl cA (fun q => sz ≤ q) (ex q).1 n0 ad0 w1) args s (cells + c1) (slots + z1) (fun q => sz ≤ q) := hFin
                      subst hQ
                      refine xj_contX hr9 hS fun ad' H1 locs1 ce q9 hag1 hP1 hD1 hS1 hce hcv hcl => ?_
                      refine vx_out (fun x hx9 => by rw [htab, gp _ _ _ hca] at hx9; simp [tableOf] at hx9) hlocks hce hcv hcl (fun t ht hvm => ⟨rfl, ad', hag.trans hn0 hag1, by rw [ht]; exact hP1, hD1, hS1.F ht⟩) hS1.2.2 (Nat.le_refl _) (Nat.le_refl _)
                    · cases h
                  | some hp =>
                    simp only [hca] at h
                    split at h
                    · rename_i hcond2
                      obtain ⟨hkd, hwok⟩ := hcond2
                      subst hkd
                      obtain ⟨o2, w2, c2, z2, e1, e2⟩ := xj_add_some h
                      simp only [Prod.mk.injEq] at e2
                      obtain ⟨rfl, rfl, rfl, rfl⟩ := e2
                      obtain ⟨hhy, -⟩ := hGM.2.2.2.2.2.2.2.2.1 rfl
                      have hM := xj_ctrX ih hy hone hle (hpl.2 (Or.inl (by decide))) hhy D cA sz ad
                      intro H locs la hl9 hP hD hS
                      have hr9 := xj_retX (d := d - 1) (la := la) (R := R) (e := e) (below := below) (meth := meth) (cells := cells) (slots := slots) hx hb hml hown hts gw gk hF hsz hP hD hS hl9.1 (gm mi) hdec hi hM (by omega) (by omega) (by omega) (by omega)
                      refine xj_contX hr9 hS fun ad' H1 locs1 ce q9 hag1 hP1 hD1 hS1 hce hcv hcl => ?_
                      refine xj_cth hown hts gk (hF.ag gv hag1) htab (gh _ _ _ _ hca) hce hcv hcl ?_
                      have hup : xj_ag w1.1.length ad' (va_up ad' 4096 q9) := xj_ag_up2 (xj_wok_lt hwok)
                      have hcw : xj_cw (va_up ad' 4096 q9) cA w1 = xj_cw ad' cA w1 := xj_cw_ag hup hwok
                      have hag2 : xj_ag w.1.length ad (va_up ad' 4096 q9) := hag1.trans hgrow hup
                      have hgo := ih d mi hp ls [.ref 4096] w1 o w' c2 z2 e1 D cA sz p e R s m args below meth c (cells + c1) (slots + z1) n0 Q ad0 (va_up ad' 4096 q9) hAt' (hF.ag gv hag2) hsz (Nat.le_trans hn0 hgrow) (hag.trans hn0 hag2) hRf hRl (by omega) (by omega) (by rw [Nat.add_assoc, Nat.add_assoc]; exact hFin)
                      have k9 := hgo H1 locs1 la (by rw [xj_cl_ag hag2 hsf.1]; exact hl9) (by rw [hcw]; exact hP1) (by rw [hcw]; exact hD1) hS1
                      have hst : ([Value.ref 4096] : List Value).map (xj_cv (va_up ad' 4096 q9)) = [.ref q9] := by
                        show [Value.ref (va_up ad' 4096 q9 4096)] = _
                        rw [va_up_self]
                      rw [hst] at k9
                      exact k9
                    · cases h
          · cases h
        | none =>
          simp only [hi] at h
          cases he : xj_end X mi i st w with
          | some f =>
            obtain ⟨o1, w1, c1, z1⟩ := f
            simp only [he, Option.some.injEq, Prod.mk.injEq] at h
            obtain ⟨rfl, rfl, rfl, rfl⟩ := h
            obtain ⟨rfl, rfl, rfl⟩ := xj_end_w he
            intro H locs la hl9 hP hD hS
            cases o1 with
            | inl v => exact hFin ad H locs la pc nx i st hag hP hD hS hdec he
            | inr q =>
              exfalso
              unfold xj_end at he
              repeat' split at he
              all_goals simp only [Option.some.injEq, Prod.mk.injEq, reduceCtorEq, false_and] at he
          | none =>
            simp only [he] at h
            cases ht : xj_th X mi pc with
            | some q =>
              simp only [ht] at h
              split at h
              · rename_i hst
                simp only [Option.some.injEq, Prod.mk.injEq] at h
                obtain ⟨rfl, rfl, rfl, rfl⟩ := h
                have hst0 : st = [] := by simpa using hst
                subst hst0
                have hQ : Q = vx_MQ below xj_No (xj_XC D cl cA (fun q => sz ≤ q) (ex q).1 n0 ad0 w) args s (cells + 1) (slots + 6) (fun q => sz ≤ q) := hFin
                subst hQ
                intro H locs la hl9 hP hD hS
                exact xj_thw hx hb hml hlocks hown hts gk hl (fun q9 => by rw [htab, q9]; rfl) hF hP hD hS hl9.1 hag (gt _ _ _ ht) (by omega) (by omega) (by omega) (by omega)
              · cases h
            | none =>
              simp only [ht] at h
              cases hk : xj_mk X mi i st with
              | none => simp [hk] at h
              | some f =>
                obtain ⟨sh, z0, rest⟩ := f
                simp only [hk] at h
                split at h
                · rename_i hcond
                  obtain ⟨hsf, hwok⟩ := hcond
                  obtain ⟨o2, w2, c2, z2, e1, e2⟩ := xj_add_some h
                  simp only [Prod.mk.injEq] at e2
                  obtain ⟨rfl, rfl, rfl, rfl⟩ := e2
                  intro H locs la hl9 hP hD hS
                  refine xj_new hx hb hown hts (fun q hq => Nat.le_trans hsz hq) hF.1 hP hD hS (gn mi) gr hdec hk hwok hl9 hsf (by omega) (by omega) fun q H1 hl1 hP1 hD1 hS1 => ?_
                  have hup : xj_ag w.1.length ad (va_up ad w.1.length q) := xj_ag_up (xj_wok_lt hwok)
                  have hgo := ih d mi nx ls (.ref w.1.length :: rest) (xj_nxt w sh) o w' c2 z2 e1 D cA sz p e R s m args below meth c (cells + 1) (slots + z0) n0 Q ad0 (va_up ad w.1.length q) hAt' (hF.ag gv hup) hsz (by simp only [xj_nxt, List.length_append]; omega) (hag.trans hn0 hup) hRf hRl (by omega) (by omega) (by rw [Nat.add_assoc, Nat.add_assoc]; exact hFin)
                  exact hgo H1 locs la hl1 hP1 hD1 hS1
                · cases h
