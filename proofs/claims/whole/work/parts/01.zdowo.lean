/-! moves that go down: one move and what follows -/
theorem n_full {M : Nat → Nat → Int32} {k mv : Int32} (h : M 32 37 = M 32 16) : d_m_book k mv M ∧ f_m_book k mv M = (0, xj_set M 32 38 1) := by
  unfold d_m_book f_m_book
  rw [if_neg (fun q => q h)]
  exact ⟨⟨fun q => absurd h q, fun _ => trivial⟩, rfl⟩
theorem yFm_cut (M : Nat → Nat → Int32) : yFm M (xj_set M 32 38 1) ∧ (xj_set M 32 38 1) 32 38 ≠ 0 := by
  refine ⟨⟨fun c hc => ?_, fun i hi => ?_, ?_⟩, ?_⟩
  · rw [s_set, if_neg (by rintro rfl; exact absurd hc (by decide))]
  · rw [s_set, if_pos rfl, u_at, if_neg (by rintro rfl; exact absurd hi (by decide))]
  · apply yBm_O <;> rw [s_set, if_neg (by decide)]
  · rw [s_set, if_pos rfl, u_at, if_pos rfl]; decide
theorem yN_upd {S S' : Nat → Nat → Int32} {k mv : Int32} (m1 : 1 ≤ mv) (m9 : mv ≤ 9) (e1 : S' 14 1 = S 14 1) (e16 : S' 16 = S 16) (e17 : S' 17 = upd (S 17) (k).toNatClampNeg (xst (mv).toNatClampNeg)) (h : yN S) : yN S' := by
  obtain ⟨nm, hnm, enm, cnm⟩ := i_nat10 (by grind : 0 ≤ mv) m9
  intro u u0 u1 hu
  rw [e1] at u1
  rw [e16] at hu
  rw [e17, u_at]
  split
  · rw [cnm]
    refine xst_0 nm hnm ?_
    rcases Nat.eq_zero_or_pos nm with z | z
    · subst z
      rw [enm] at m1
      exact absurd m1 (by decide)
    · exact z
  · exact h u u0 u1 hu
theorem ypush_O (M : Nat → Nat → Int32) (k mv : Int32) : (∀ c, c ≠ 32 → c ≠ 61 → c ≠ 62 → c ≠ 63 → ypush M k mv c = M c) ∧ (∀ i, i ≠ 39 → ypush M k mv 32 i = M 32 i) ∧ ypush M k mv 32 39 = M 32 39 + 1 ∧ ypush M k mv 61 = upd (M 61) (M 32 39).toNatClampNeg k ∧ ypush M k mv 62 = upd (M 62) (M 32 39).toNatClampNeg mv ∧ ypush M k mv 63 = upd (M 63) (M 32 39).toNatClampNeg 0 := by
  unfold ypush
  refine ⟨fun c h1 h2 h3 h4 => ?_, fun i hi => ?_, ?_, ?_, ?_, ?_⟩
  · simp [s_set, h1, h2, h3, h4]
  · simp [s_set, u_at, hi]
  · simp [s_set, u_at]
  · simp [s_set]
  · simp [s_set]
  · simp [s_set]
theorem z_A {n : Nat} (hB : zB n) : zA (n + 3) := by
  intro S M T0 k mv dep hR h0 h1 hm h5 h6 hdep hn t0 t1
  have hR' := hR
  obtain ⟨hp, hl, hd, hi, hk, hc⟩ := hR
  have hd' := hd
  obtain ⟨l17, l45, l46, l47, l48, l49, l50, l24, l51, l52⟩ := hl
  obtain ⟨d1, d2, d3, d4, d6, d8, d12, d14a, d14b, d15, d16⟩ := hd
  obtain ⟨k1, k2, k3, k4, k5, k6, k7, k8⟩ := hk
  obtain ⟨c1, c2, c3, c4, c5, c6, c7, c8, c9, c10, c11⟩ := hc
  have ki := d15 (k).toNatClampNeg
  have ki1 := t_le ki.1
  have ki2 := t_lt ki.2
  have q0 := t_0
  have q12 := t_12
  have q40 := t_40
  have q60 := t_60
  have cn := t_le d14b
  have mb := t_le c5
  have mb2 := t_le c7
  have vk : vp_in k 40 := v40 h0 (by grind)
  have m1 : 1 ≤ mv := by grind
  have m9 : mv ≤ 9 := by grind
  by_cases qb : S 0 3 = S 14 0
  · obtain ⟨z1, z2, z3⟩ := yZ_set hd'
    obtain ⟨f1, f2⟩ := n_full (k := k) (mv := mv) (by rw [c8, c9]; exact qb : M 32 37 = M 32 16)
    obtain ⟨g1, g2⟩ := yFm_cut M
    exact ⟨_, _, _, 0, cMk_full c10 qb, z3, mEn_cut f1 f2, mSt_rf _, g1, Or.inr ⟨z1, z2, g2, by omega⟩⟩
  · have hk4 : 2 ≤ S 2 (S 15 (k).toNatClampNeg).toNatClampNeg → mv = 3 ∨ mv = 4 ∨ mv = 9 := by
      intro h
      have := k4 k h0 h1 h
      grind
    obtain ⟨S1, S2, M1, M2, dn, fn, dh, dm, fm, db, fb, dm2, fm2, R2, e03, e141, e15, e16, e17, F, Fm, s61, s62, s63, s39⟩ := z_step hR' h0 h1 m1 m9 qb hk4 (by grind)
    have hR2 := R2
    have E2 : yE M2 := yE_of R2.1 R2.2.1 R2.2.2.1
    have vi : vp_in (S2 15 (k).toNatClampNeg) 12 := by rw [e15]; exact v12 ki.1 ki.2
    have kd := q_kindOf (a := k) R2.1 R2.2.1
    have dk := dm_kindOf E2 vk
    have em : (S2 0 3).toInt = (S 0 3).toInt + 1 := by rw [e03]; exact i_t1 c4 (by grind : S 0 3 < S 14 0)
    have m4 : ¬ mv = 4 := by grind
    have m3 : mv ≠ 3 := by grind
    have dep12 : dep ≤ 12 := by grind
    by_cases qs : S2 2 (S2 15 (k).toNatClampNeg).toNatClampNeg = 0
    · have kd0 : r_m_kindOf M2 k = 0 := by rw [kd]; exact qs
      have pm : mv = 4 ∨ mv = 5 ∨ mv = 6 ∨ mv = 9 := Or.inr hm
      have vt : vp_in (M2 32 39) 16 := by rw [s39]; exact v16 t0 (by grind)
      obtain ⟨pO, p32, p39, p61, p62, p63⟩ := ypush_O M2 k mv
      obtain ⟨Mp, hMp⟩ : ∃ Mp, Mp = ypush M2 k mv := ⟨_, rfl⟩
      have en := mEn_push db fb vk dm2 fm2 dk kd0 pm vt
      rw [← hMp] at en pO p32 p39 p61 p62 p63
      have Rp : yR S2 Mp T0 := yR_stk R2 pO p32
      have Fp : yFm M2 Mp := yFm_stk pO p32
      have et : Mp 32 39 - 1 = M 32 39 := by rw [p39, s39]; grind
      have i61 : Mp 61 (Mp 32 39 - 1).toNatClampNeg = k := by rw [et, p61, s39, u_at, if_pos rfl]
      have i62 : Mp 62 (Mp 32 39 - 1).toNatClampNeg = mv := by rw [et, p62, s39, u_at, if_pos rfl]
      have i63 : Mp 63 (Mp 32 39 - 1).toNatClampNeg = 0 := by rw [et, p63, s39, u_at, if_pos rfl]
      have vt1 : vp_in (Mp 32 39 - 1) 16 := by rw [et]; exact v16 t0 (by grind)
      obtain ⟨S3, g1, g2, g3⟩ := hB S2 Mp T0 k mv (dep + 1) 0 Rp h0 (by rw [e141]; exact h1) pm (by rw [e15]; grind) (by decide) (by rw [e141]; exact d14a) (by rw [e15]; omega) (by rw [p39, s39]; grind) (by rw [p39, s39, e15]; grind) i61 i62
      have cmk : cMk (n + 3) k mv dep S S3 := cMk_stg c10 qb dep12 dn fn vk dh dm fm vi qs m4 m3 (cMw_lp pm g1)
      have hdd : ∀ i M', mSc i k mv 0 Mp M' → mSt (i + 1) Mp M' := by
        intro i M' h
        refine mSt_hd (by rw [p39, s39]; grind) Rp.2.2.2.2.2.2.2.2.2.2.2.2.2.2.2 vt1 ?_
        rw [i61, i62, i63]
        exact h
      rcases g3 with ⟨Mq, jb, w1, w2, w3, w4, w5, w6, w7, w8, w9, w10⟩ | ⟨w1, w2, M', jb, w3, w4, w5, w6⟩
      · have eq : Mq 32 39 - 1 = M 32 39 := by rw [w7]; exact et
        obtain ⟨Mz, hMz⟩ : ∃ Mz, Mz = xj_set (xj_set Mq 63 (Mq 32 39 - 1).toNatClampNeg (S2 14 1 + 1)) 32 39 (Mq 32 39 - 1) := ⟨_, rfl⟩
        have zO : ∀ c, c ≠ 32 → c ≠ 61 → c ≠ 62 → c ≠ 63 → Mz c = Mq c := fun c h1 h2 h3 h4 => by rw [hMz]; simp [s_set, h1, h4]
        have z32 : ∀ i, i ≠ 39 → Mz 32 i = Mq 32 i := fun i hi => by rw [hMz]; simp [s_set, u_at, hi]
        have z39 : Mz 32 39 = Mq 32 39 - 1 := by rw [hMz]; simp [s_set, u_at]
        have z61 : Mz 61 = Mq 61 := by rw [hMz]; simp [s_set]
        have z62 : Mz 62 = Mq 62 := by rw [hMz]; simp [s_set]
        have z63 : Mz 63 = upd (Mq 63) (Mq 32 39 - 1).toNatClampNeg (S2 14 1 + 1) := by rw [hMz]; simp [s_set]
        have ag : mAg k mv (xj_set (xj_set Mq 63 (Mq 32 39 - 1).toNatClampNeg (S2 14 1 + 1)) 32 39 (Mq 32 39 - 1)) Mz := by
          rw [← hMz]; exact mAg_no m3 m4
        have l17q : Mq 32 17 = S2 14 1 := by rw [w3.2.1.1, w4]
        have pp := mSc_pop (j := 0) (p := k) (m := mv) (u := S2 14 1) (M := Mq) (by rw [l17q]; exact Int32.le_refl _) (by rw [eq]; exact v16 t0 (by grind)) ag (mSt_rf Mz)
        have st := hdd _ _ (w1 _ _ pp)
        refine ⟨S3, Mp, Mz, _, cmk, F.tr g2, en, st, ((Fm.tr Fp).tr w2).tr (yFm_stk zO z32), Or.inl ⟨yR_stk w3 zO z32, w4.trans e141, w5.trans e15, w6.trans e16, ⟨by rw [z39, eq], fun i hi => ?_⟩, ?_, fun h => w10 (yN_upd m1 m9 e141 e16 e17 h)⟩⟩
        · have c39 : (Mp 32 39).toNatClampNeg = (M 32 39).toNatClampNeg + 1 := by rw [p39, s39]; exact ix_1 t0 (by grind : M 32 39 < 12)
          obtain ⟨v1, v2, v3⟩ := w8 i (by omega)
          have ne : ¬ i = (M 32 39).toNatClampNeg := by omega
          rw [z61, z62, z63, eq, u_at, if_neg ne, v1, v2, v3, p61, p62, p63, s39, s61, s62, s63]
          simp [u_at, ne]
        · rw [e141, em] at w9
          omega
      · refine ⟨S3, Mp, M', jb + 1, cmk, F.tr g2, en, hdd _ _ w3, (Fm.tr Fp).tr w4, Or.inr ⟨w1, w2, w5, ?_⟩⟩
        rw [e141, em] at w6
        omega
    · have kd0 : r_m_kindOf M2 k ≠ 0 := by rw [kd]; exact qs
      refine ⟨S2, M2, M2, 0, cMk_leaf c10 qb dep12 dn fn vk dh dm fm vi qs m4 m3, F, mEn_leaf db fb vk dm2 fm2 dk kd0 (mAg_no m3 m4), mSt_rf _, Fm, Or.inl ⟨R2, e141, e15, e16, ⟨s39, fun i _ => by rw [s61, s62, s63]; exact ⟨rfl, rfl, rfl⟩⟩, ?_, fun h => yN_upd m1 m9 e141 e16 e17 h⟩⟩
      omega
theorem z_AB : ∀ n : Nat, zA n ∧ zB n := by
  intro n
  induction n using Nat.strongRecOn with
  | ind n ih =>
    constructor
    · rcases Nat.lt_or_ge n 3 with h | h
      · intro S M T0 k mv dep hR h0 h1 hm h5 h6 hdep hn
        have z := (hR.2.2.1).2.2.2.2.2.2.2.2.2.1 (k).toNatClampNeg
        have z2 := t_lt z.2
        have := t_12
        exfalso
        omega
      · obtain ⟨m, rfl⟩ : ∃ m, n = m + 3 := ⟨n - 3, by omega⟩
        exact z_A (ih m (by omega)).2
    · cases n with
      | zero =>
        intro S M T0 k m dep u hR h0 h1 hm hdep u0 u1 hn
        have z := (hR.2.2.1).2.2.2.2.2.2.2.2.2.1 (k).toNatClampNeg
        have z2 := t_lt z.2
        have z3 := t_le u1
        have z4 := t_le (hR.2.2.1).2.2.2.2.2.2.2.2.1
        have := t_12
        have := t_40
        exfalso
        omega
      | succ n => exact z_B (ih n (by omega)).1 (ih n (by omega)).2
