/-! a move of the first rank: all cases -/
theorem z_make {S M : Nat → Nat → Int32} {T0 k mv : Int32} (hR : yR S M T0) (h0 : 0 ≤ k) (h1 : k < S 14 1) (m1 : 1 ≤ mv) (m9 : mv ≤ 9) (hk4 : 2 ≤ S 2 (S 15 (k).toNatClampNeg).toNatClampNeg → mv = 3 ∨ mv = 4 ∨ mv = 9) (hk5 : mv = 7 → S 2 (S 15 (k).toNatClampNeg).toNatClampNeg = 1) (h5 : mv = 5 → S 17 (k).toNatClampNeg = 2) (h6 : mv = 6 → S 17 (k).toNatClampNeg = 3) (hy : yN1 k S) (hy2 : mv ≠ 2 → yN S) :
    ∃ S' M', cMk 600 k mv 0 S S' ∧ yF S S' ∧ mMk k mv M M' ∧ yFm M M' ∧ ((yR S' M' T0 ∧ (S 0 3).toInt < (S' 0 3).toInt ∧ yN S') ∨ (S' 0 4 ≠ 0 ∧ yD S' ∧ M' 32 38 ≠ 0)) := by
  obtain ⟨N, hN⟩ : ∃ N, N = xj_set M 32 39 0 := ⟨_, rfl⟩
  have nO : ∀ c, c ≠ 32 → c ≠ 61 → c ≠ 62 → c ≠ 63 → N c = M c := fun c h _ _ _ => by rw [hN, s_set, if_neg h]
  have n32 : ∀ i, i ≠ 39 → N 32 i = M 32 i := fun i hi => by rw [hN, s_set, if_pos rfl, u_at, if_neg hi]
  have n39 : N 32 39 = 0 := by rw [hN, s_set, if_pos rfl, u_at, if_pos rfl]
  have RN : yR S N T0 := yR_stk hR nO n32
  have FN : yFm M N := yFm_stk nO n32
  have fin : ∀ {M1 M' : Nat → Nat → Int32} {j : Nat}, mEn k mv N M1 → mSt j M1 M' → j ≤ 3999 → (M' 32 39 ≤ 0 ∨ M' 32 38 ≠ 0) → mMk k mv M M' := by
    intro M1 M' j a b c d
    rw [hN] at a
    exact mMk_of a b c d
  clear hN hR
  have hc := RN.2.2.2.2.2
  have hk := RN.2.2.2.2.1
  have hd' := RN.2.2.1
  have hd := RN.2.2.1
  have hl := RN.2.1
  have i7 := (RN.2.2.2.1).2.2.1
  have i6 := (RN.2.2.2.1).2.1
  obtain ⟨l17, l45, l46, l47, l48, l49, l50, l24, l51, l52⟩ := hl
  obtain ⟨d1, d2, d3, d4, d6, d8, d12, d14a, d14b, d15, d16⟩ := hd
  obtain ⟨k1, k2, k3, k4, k5, k6, k7, k8⟩ := hk
  obtain ⟨c1, c2, c3, c4, c5, c6, c7, c8, c9, c10, c11⟩ := hc
  have ki := d15 (k).toNatClampNeg
  have ki1 := t_le ki.1
  have ki2 := t_lt ki.2
  have q0 := t_0
  have q12 := t_12
  have q40 := t_40
  have q60 := t_60
  have cn := t_le d14b
  have mb0 := t_le c4
  have mb := t_le c5
  have mb2 := t_le c7
  have vk : vp_in k 40 := v40 h0 (by grind)
  by_cases md : mv = 5 ∨ mv = 6 ∨ mv = 9
  · obtain ⟨S', M1, M', j, a1, a2, a3, a4, a5, a6⟩ := (z_AB 600).1 S N T0 k mv 0 RN h0 h1 md h5 h6 ki.1 (by omega) (by rw [n39]; decide) (by rw [n39]; exact ki.1)
    rcases a6 with ⟨r1, r2, r3, r4, r5, r6, r7⟩ | ⟨r1, r2, r3, r4⟩
    · have b1 := r1.2.2.2.2.2
      have w1 := t_le b1.2.2.2.2.1
      have w2 := t_le b1.2.2.2.2.2.2.1
      exact ⟨S', M', a1, a2, fin a3 a4 (by omega) (Or.inl (by rw [r5.1, n39]; decide)), FN.tr a5, Or.inl ⟨r1, by omega, r7 (hy2 (by grind))⟩⟩
    · exact ⟨S', M', a1, a2, fin a3 a4 (by omega) (Or.inr r3), FN.tr a5, Or.inr ⟨r1, r2, r3⟩⟩
  · by_cases qb : S 0 3 = S 14 0
    · obtain ⟨z1, z2, z3⟩ := yZ_set hd'
      obtain ⟨f1, f2⟩ := n_full (k := k) (mv := mv) (by rw [c8, c9]; exact qb : N 32 37 = N 32 16)
      obtain ⟨g1, g2⟩ := yFm_cut N
      exact ⟨_, _, cMk_full c10 qb, z3, fin (mEn_cut f1 f2) (mSt_rf _) (by omega) (Or.inr g2), FN.tr g1, Or.inr ⟨z1, z2, g2⟩⟩
    · obtain ⟨S1, S2, M1, M2, dn, fn, dh, dm, fm, db, fb, dm2, fm2, R2, e03, e141, e15, e16, e17, F, Fm, s61, s62, s63, s39⟩ := z_step RN h0 h1 m1 m9 qb hk4 hk5
      have E2 : yE M2 := yE_of R2.1 R2.2.1 R2.2.2.1
      have vi : vp_in (S2 15 (k).toNatClampNeg) 12 := by rw [e15]; exact v12 ki.1 ki.2
      have kd := q_kindOf (a := k) R2.1 R2.2.1
      have dk := dm_kindOf E2 vk
      have em : (S2 0 3).toInt = (S 0 3).toInt + 1 := by rw [e03]; exact i_t1 c4 (by grind : S 0 3 < S 14 0)
      have N2 : yN S2 := yN_upd1 h0 m1 m9 e141 e16 e17 hy
      have t39 : M2 32 39 = 0 := by rw [s39]; exact n39
      have k1' : k < S2 14 1 := by rw [e141]; exact h1
      have d0 : (0 : Int32) ≤ 12 := by decide
      have d1' : (0 : Int32) + 1 ≤ 12 := by decide
      have ned : ¬ mv = 5 ∧ ¬ mv = 6 ∧ ¬ mv = 9 := by grind
      have bm := t_le R2.2.2.2.2.2.2.2.2.2.1
      have bm2 := t_le R2.2.2.2.2.2.2.2.2.2.2.2.1
      by_cases q34 : mv = 3 ∨ mv = 4
      · by_cases qs : S2 2 (S2 15 (k).toNatClampNeg).toNatClampNeg = 0
        · have kd0 : r_m_kindOf M2 k = 0 := by rw [kd]; exact qs
          by_cases q4 : mv = 4
          · have pm : mv = 4 ∨ mv = 5 ∨ mv = 6 ∨ mv = 9 := Or.inl q4
            have vt : vp_in (M2 32 39) 16 := by rw [t39]; exact v16 (by decide) (by decide)
            obtain ⟨pO, p32, p39, p61, p62, p63⟩ := ypush_O M2 k mv
            obtain ⟨Mp, hMp⟩ : ∃ Mp, Mp = ypush M2 k mv := ⟨_, rfl⟩
            have en := mEn_push db fb vk dm2 fm2 dk kd0 pm vt
            rw [← hMp] at en pO p32 p39 p61 p62 p63
            have Rp : yR S2 Mp T0 := yR_stk R2 pO p32
            have Fp : yFm M2 Mp := yFm_stk pO p32
            have p1 : Mp 32 39 = 1 := by rw [p39, t39]; rfl
            have et : Mp 32 39 - 1 = 0 := by rw [p1]; rfl
            have z0 : ((0 : Int32)).toNatClampNeg = 0 := by decide
            have i61 : Mp 61 (Mp 32 39 - 1).toNatClampNeg = k := by rw [et, p61, t39, u_at, if_pos rfl]
            have i62 : Mp 62 (Mp 32 39 - 1).toNatClampNeg = mv := by rw [et, p62, t39, u_at, if_pos rfl]
            have i63 : Mp 63 (Mp 32 39 - 1).toNatClampNeg = 0 := by rw [et, p63, t39, u_at, if_pos rfl]
            have vt1 : vp_in (Mp 32 39 - 1) 16 := by rw [et]; exact v16 (by decide) (by decide)
            obtain ⟨S3, g1, g2, g3⟩ := (z_AB 597).2 S2 Mp T0 k mv (0 + 1) 0 Rp h0 k1' pm (by rw [e15]; grind) (by decide) (by rw [e141]; exact d14a) (by rw [e15]; omega) (by rw [p1]; decide) (by rw [p1, e15]; grind) i61 i62
            have hdd : ∀ i M', mSc i k mv 0 Mp M' → mSt (i + 1) Mp M' := by
              intro i M' h
              refine mSt_hd (by rw [p1]; decide) Rp.2.2.2.2.2.2.2.2.2.2.2.2.2.2.2 vt1 ?_
              rw [i61, i62, i63]
              exact h
            rcases g3 with ⟨Mq, jb, w1, w2, w3, w4, w5, w6, w7, w8, w9, w10⟩ | ⟨w1, w2, M', jb, w3, w4, w5, w6⟩
            · have b5 := t_le w3.2.2.2.2.2.2.2.2.2.1
              have b6 := t_le w3.2.2.2.2.2.2.2.2.2.2.2.1
              have eq : Mq 32 39 - 1 = 0 := by rw [w7, p1]; rfl
              obtain ⟨Mz, hMz⟩ : ∃ Mz, Mz = xj_set (xj_set Mq 63 (Mq 32 39 - 1).toNatClampNeg (S2 14 1 + 1)) 32 39 (Mq 32 39 - 1) := ⟨_, rfl⟩
              have zO : ∀ c, c ≠ 32 → c ≠ 61 → c ≠ 62 → c ≠ 63 → Mz c = Mq c := fun c h1 h2 h3 h4 => by rw [hMz]; simp [s_set, h1, h4]
              have z32 : ∀ i, i ≠ 39 → Mz 32 i = Mq 32 i := fun i hi => by rw [hMz]; simp [s_set, u_at, hi]
              have z39 : Mz 32 39 = 0 := by rw [hMz, ← eq]; simp [s_set, u_at]
              have Rz := yR_stk w3 zO z32
              obtain ⟨S4, M4, y1, y2, y3, y4, y5, y6⟩ := z_again (mv := mv) (dep := 0 + 1) 595 Rz h0 (by rw [w4]; exact k1') q34 d1'
              have l17q : Mq 32 17 = S2 14 1 := by rw [w3.2.1.1, w4]
              rw [hMz] at y3
              have pp := mSc_pop (j := 0) (p := k) (m := mv) (u := S2 14 1) (M := Mq) (by rw [l17q]; exact Int32.le_refl _) (by rw [eq]; exact v16 (by decide) (by decide)) y3 (mSt_rf M4)
              have st := hdd _ _ (w1 _ _ pp)
              rw [e141, em] at w9
              have cmk : cMk 600 k mv 0 S S4 := cMk_stgr c10 qb d0 dn fn vk dh dm fm vi qs q34 (cMw_lp pm g1) y1
              refine ⟨S4, M4, cmk, (F.tr g2).tr y2, fin en st (by omega) (Or.inl (by rw [y5, z39]; decide)), ((((FN.tr Fm).tr Fp).tr w2).tr (yFm_stk zO z32)).tr y4, ?_⟩
              rcases y6 with ⟨v1, v2, v3⟩ | v
              · exact Or.inl ⟨v1, by omega, v3 (w10 N2)⟩
              · exact Or.inr v
            · rw [e141, em] at w6
              have st := hdd _ _ w3
              obtain ⟨S4, y1, y2, y3, y4⟩ : ∃ S4, cRp 599 k (0 + 1) S3 S4 ∧ S4 0 4 ≠ 0 ∧ yD S4 ∧ yF S3 S4 := by
                by_cases x1 : r_p_hasFlag S3 (S3 15 (k).toNatClampNeg) 1 = 0
                · exact ⟨S3, cRp_no vk w2 (Or.inl x1), w1, w2, yF.rf S3⟩
                · by_cases x2 : r_p_hasEntry S3 (S3 15 (k).toNatClampNeg) ≠ 0
                  · exact ⟨S3, cRp_no vk w2 (Or.inr (Or.inl x2)), w1, w2, yF.rf S3⟩
                  · by_cases x3 : r_c_parentLets S3 k = 0
                    · exact ⟨S3, cRp_no vk w2 (Or.inr (Or.inr x3)), w1, w2, yF.rf S3⟩
                    · obtain ⟨z1, z2, z3⟩ := yZ_set w2
                      exact ⟨_, cRp_go vk w2 x1 x2 x3 (cCr_cut w1), z1, z2, z3⟩
              exact ⟨S4, M', cMk_stgr c10 qb d0 dn fn vk dh dm fm vi qs q34 (cMw_lp pm g1) y1, (F.tr g2).tr y4, fin en st (by omega) (Or.inr w5), ((FN.tr Fm).tr Fp).tr w4, Or.inr ⟨y2, y3, w5⟩⟩
          · have q3 : mv = 3 := by grind
            obtain ⟨S4, M4, y1, y2, y3, y4, y5, y6⟩ := z_again (mv := mv) (dep := 0 + 1) 595 R2 h0 k1' q34 d1'
            refine ⟨S4, M4, cMk_stgr c10 qb d0 dn fn vk dh dm fm vi qs q34 (cMw_no (by grind)) y1, F.tr y2, fin (mEn_oth db fb vk dm2 fm2 dk kd0 (by grind) q4 ned.2.2 ned.1 ned.2.1 y3) (mSt_rf _) (by omega) (Or.inl (by rw [y5, t39]; decide)), (FN.tr Fm).tr y4, ?_⟩
            rcases y6 with ⟨v1, v2, v3⟩ | v
            · exact Or.inl ⟨v1, by omega, v3 N2⟩
            · exact Or.inr v
        · have kd0 : r_m_kindOf M2 k ≠ 0 := by rw [kd]; exact qs
          obtain ⟨S4, M4, y1, y2, y3, y4, y5, y6⟩ := z_again (mv := mv) (dep := 0 + 1) 595 R2 h0 k1' q34 d1'
          refine ⟨S4, M4, cMk_rep c10 qb d0 dn fn vk dh dm fm vi qs q34 y1, F.tr y2, fin (mEn_leaf db fb vk dm2 fm2 dk kd0 y3) (mSt_rf _) (by omega) (Or.inl (by rw [y5, t39]; decide)), (FN.tr Fm).tr y4, ?_⟩
          rcases y6 with ⟨v1, v2, v3⟩ | v
          · exact Or.inl ⟨v1, by omega, v3 N2⟩
          · exact Or.inr v
      · have m3 : ¬ mv = 3 := fun h => q34 (Or.inl h)
        have m4 : ¬ mv = 4 := fun h => q34 (Or.inr h)
        by_cases qs : S2 2 (S2 15 (k).toNatClampNeg).toNatClampNeg = 0
        · have kd0 : r_m_kindOf M2 k = 0 := by rw [kd]; exact qs
          by_cases q2 : mv = 2
          · subst q2
            obtain ⟨S4, M4, y1, y2, y3, y4, y5, y6⟩ := z_cl (T0 := T0) (k := k) (dep := 0 + 1) d1' 596 200 1 S2 M2 R2 h0 k1' (by decide) (by decide) (by decide) (by decide) (by decide) N2
            have ns : ¬ S2 1 0 ≤ 0 := by have := (R2.2.2.1).1; grind
            have n3 : S2 3 ((0 : Int32)).toNatClampNeg ≠ S2 15 (k).toNatClampNeg := by
              have z0 : ((0 : Int32)).toNatClampNeg = 0 := by decide
              rw [z0, F.1 3 rfl, i6, e15]
              have := ki.1
              grind
            have y1' : cCl 597 k (0 + 1) 0 S2 S4 := cCl_skip ns (v12 (by decide) (by decide)) vk n3 y1
            refine ⟨S4, M4, cMk_stg c10 qb d0 dn fn vk dh dm fm vi qs m4 m3 (cMw_2 (cCw_of y1')), F.tr y2, fin (mEn_2 db fb vk dm2 fm2 dk kd0 y3) (mSt_rf _) (by omega) (Or.inl (by rw [y5, t39]; decide)), (FN.tr Fm).tr y4, ?_⟩
            rcases y6 with ⟨v1, v2, v3⟩ | v
            · exact Or.inl ⟨v1, by omega, v3⟩
            · exact Or.inr v
          · exact ⟨S2, M2, cMk_stg c10 qb d0 dn fn vk dh dm fm vi qs m4 m3 (cMw_no (by grind)), F, fin (mEn_oth db fb vk dm2 fm2 dk kd0 q2 m4 ned.2.2 ned.1 ned.2.1 (mAg_no m3 m4)) (mSt_rf _) (by omega) (Or.inl (by rw [t39]; decide)), FN.tr Fm, Or.inl ⟨R2, by omega, N2⟩⟩
        · have kd0 : r_m_kindOf M2 k ≠ 0 := by rw [kd]; exact qs
          exact ⟨S2, M2, cMk_leaf c10 qb d0 dn fn vk dh dm fm vi qs m4 m3, F, fin (mEn_leaf db fb vk dm2 fm2 dk kd0 (mAg_no m3 m4)) (mSt_rf _) (by omega) (Or.inl (by rw [t39]; decide)), FN.tr Fm, Or.inl ⟨R2, by omega, N2⟩⟩
