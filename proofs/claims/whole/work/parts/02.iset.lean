/-! set -/
theorem yA_file {S M S2 M2 : Nat → Nat → Int32} {t t2 : Int32} (h : yA S M t) (ht : t ≤ t2) (hS : ∀ c, c ≠ 0 → c ≠ 20 → c < 23 → S2 c = S c) (hM : ∀ c, 33 ≤ c → c ≠ 50 → c ≤ 52 → M2 c = M c) (h32 : ∀ i, i ≠ 0 → M2 32 i = M 32 i) (h50 : M2 50 = S2 20) : yA S2 M2 t2 := by
  obtain ⟨a1, a2, a3, a4, a5, a6, a7, a8, a9, a10, a11⟩ := h
  have s1 := hS 1 (by decide) (by decide) (by decide)
  have s2 := hS 2 (by decide) (by decide) (by decide)
  have s3 := hS 3 (by decide) (by decide) (by decide)
  have s4 := hS 4 (by decide) (by decide) (by decide)
  have s5 := hS 5 (by decide) (by decide) (by decide)
  have s6 := hS 6 (by decide) (by decide) (by decide)
  have s7 := hS 7 (by decide) (by decide) (by decide)
  have s8 := hS 8 (by decide) (by decide) (by decide)
  have s9 := hS 9 (by decide) (by decide) (by decide)
  have s10 := hS 10 (by decide) (by decide) (by decide)
  have s11 := hS 11 (by decide) (by decide) (by decide)
  have s12 := hS 12 (by decide) (by decide) (by decide)
  have s13 := hS 13 (by decide) (by decide) (by decide)
  have s14 := hS 14 (by decide) (by decide) (by decide)
  have s15 := hS 15 (by decide) (by decide) (by decide)
  have s16 := hS 16 (by decide) (by decide) (by decide)
  have s17 := hS 17 (by decide) (by decide) (by decide)
  have s18 := hS 18 (by decide) (by decide) (by decide)
  have s19 := hS 19 (by decide) (by decide) (by decide)
  have s21 := hS 21 (by decide) (by decide) (by decide)
  have s22 := hS 22 (by decide) (by decide) (by decide)
  refine ⟨?_, ?_, ?_, ?_, ?_, ?_, by rw [s14]; exact a7, by rw [s14]; exact Int32.le_trans a8 ht, ?_, ?_, by rw [s2]; exact a11⟩
  · unfold yP at a1 ⊢
    rw [h32 1 (by decide), h32 5 (by decide), hM 33 (by decide) (by decide) (by decide), hM 34 (by decide) (by decide) (by decide), hM 35 (by decide) (by decide) (by decide), hM 36 (by decide) (by decide) (by decide), hM 37 (by decide) (by decide) (by decide), hM 38 (by decide) (by decide) (by decide), hM 39 (by decide) (by decide) (by decide), hM 40 (by decide) (by decide) (by decide), hM 41 (by decide) (by decide) (by decide), hM 42 (by decide) (by decide) (by decide), hM 43 (by decide) (by decide) (by decide), hM 44 (by decide) (by decide) (by decide), s1, s2, s3, s4, s6, s7, s8, s9, s10, s11, s12, s13]
    exact a1
  · obtain ⟨l17, l45, l46, l47, l48, l49, l50, l24, l51, l52⟩ := a2
    refine ⟨?_, ?_, ?_, ?_, ?_, ?_, h50, ?_, ?_, ?_⟩
    · rw [h32 17 (by decide), s14]; exact l17
    · rw [hM 45 (by decide) (by decide) (by decide), s15]; exact l45
    · rw [hM 46 (by decide) (by decide) (by decide), s16]; exact l46
    · rw [hM 47 (by decide) (by decide) (by decide), s17]; exact l47
    · rw [hM 48 (by decide) (by decide) (by decide), s18]; exact l48
    · rw [hM 49 (by decide) (by decide) (by decide), s19]; exact l49
    · rw [h32 24 (by decide), s14]; exact l24
    · rw [hM 51 (by decide) (by decide) (by decide), s21]; exact l51
    · rw [hM 52 (by decide) (by decide) (by decide), s22]; exact l52
  · unfold yD at a3 ⊢
    rw [s1, s6, s8, s12, s14, s15, s16]
    exact a3
  · unfold yI at a4 ⊢
    rw [s1, s2, s3, s4, s5, s6, s8, s9, s10]
    exact a4
  · unfold yK at a5 ⊢
    rw [s1, s2, s6, s8, s14, s15, s16, s17, s18, s19]
    exact a5
  · unfold yN at a6 ⊢
    rw [s14, s16, s17]
    exact a6
  · rw [s14, h32 15 (by decide)]
    exact a9
  · rw [s14, h32 15 (by decide), h32 16 (by decide)]
    exact a10
theorem cWr_0 {S : Nat → Nat → Int32} (hd : yD S) (h : S 14 1 = 0) (h4 : S 0 4 = 0) : d_c_workOff S ∧ f_c_workOff S = (0, S 0 3, S) := by
  have z : S 14 1 ≤ 0 := by rw [h]; decide
  have x : r_c_lowestToExit S = -1 := by
    unfold r_c_lowestToExit rl0_c_lowestToExit
    exact if_pos z
  have y : r_c_lowestToEnter S = -1 := by
    unfold r_c_lowestToEnter rl0_c_lowestToEnter
    exact if_pos z
  have w : r_c_lowestToComplete S = -1 := by
    unfold r_c_lowestToComplete rl0_c_lowestToComplete
    exact if_pos z
  have n60 : ¬ (60 : Int32) < 0 := by decide
  unfold d_c_workOff f_c_workOff
  rw [de_c_workOff_0, fe_c_workOff_0, if_neg n60, if_neg (fun q => q h4), if_pos x, if_pos y, if_neg (fun q => q w)]
  exact ⟨⟨fun q => absurd q n60, fun _ => ⟨fun q => absurd h4 q, fun _ => ⟨dd_lowestToExit hd, fun _ => ⟨dd_lowestToEnter hd, fun _ => ⟨dd_lowestToComplete hd, fun q => absurd w q, fun _ => trivial⟩, fun q => absurd y q⟩, fun q => absurd x q⟩⟩⟩, rfl⟩
theorem op_set {S M : Nat → Nat → Int32} {t a b : Int32} (hA : yA S M t) (ht : t ≤ 900000) (ht0 : 0 ≤ t) : ∃ (tag : Nat) (v : Int32) (S' : Nat → Nat → Int32) (r : Int32) (M' : Nat → Nat → Int32), d_c_set a b S ∧ f_c_set a b S = (tag, v, S') ∧ d_m_set a b M ∧ f_m_set a b M = (r, M') ∧ yA S' M' (t + 60) ∧ (∀ c, 32 ≤ c → S' c = S c) ∧ (∀ c, c < 32 → M' c = M c) ∧
    ((tag = 0 ∧ M' 32 0 = 0 ∧ r = v) ∨ (tag = 2 ∧ M' 32 0 = 1) ∨ (tag = 3 ∧ M' 32 0 = 2)) := by
  have hA' := hA
  have tt : t ≤ t + 60 := by grind
  obtain ⟨a1, a2, a3, a4, a5, a6, a7, a8, a9, a10, a11⟩ := hA
  have l50 := a2.2.2.2.2.2.2.1
  have dv : d_c_isVariable S a := by
    unfold d_c_isVariable
    repeat' (first | with_reducible exact trivial | with_reducible assumption | with_reducible apply And.intro | intro _)
  have dw : d_m_within (xj_set M 32 0 0) a 3 := by
    unfold d_m_within
    repeat' (first | with_reducible exact trivial | with_reducible assumption | with_reducible apply And.intro | intro _)
  have mO : ∀ (x : Int32) c, c ≠ 32 → (xj_set M 32 0 x) c = M c := fun x c h => by rw [s_set, if_neg h]
  have mI : ∀ (x : Int32) i, i ≠ 0 → (xj_set M 32 0 x) 32 i = M 32 i := fun x i h => by rw [s_set, if_pos rfl, u_at, if_neg h]
  have m0 : ∀ x : Int32, (xj_set M 32 0 x) 32 0 = x := fun x => by rw [s_set, if_pos rfl, u_at, if_pos rfl]
  have ev : r_m_within (xj_set M 32 0 0) a 3 = r_c_isVariable S a := by
    unfold r_m_within r_c_isVariable
    grind
  by_cases q1 : r_c_isVariable S a ≠ 0
  · have qa : 0 ≤ a ∧ a < 4 := by
      unfold r_c_isVariable at q1
      grind
    have va : vp_in a 4 := v4 qa.1 qa.2
    have na : (a).toNatClampNeg < 4 := by
      have z := ix_lt qa.1 qa.2
      have e : ((4 : Int32)).toNatClampNeg = 4 := by decide
      omega
    have qm : r_m_within (xj_set M 32 0 0) a 3 ≠ 0 := by rw [ev]; exact q1
    obtain ⟨o1, S1, o2, o3⟩ := o_open S
    have s : ∀ c, c ≠ 0 → c < 23 → S1 c = S c := fun c h h' => o3.1 c h (Or.inl h')
    have s20 := s 20 (by decide) (by decide)
    have o4 : S1 0 4 = 0 := o3.2.2.1
    have o0 : S1 0 3 = 0 := o3.2.1
    have D1 : yD S1 := by
      unfold yD at a3 ⊢
      rw [s 1 (by decide) (by decide), s 6 (by decide) (by decide), s 8 (by decide) (by decide), s 12 (by decide) (by decide), s 14 (by decide) (by decide), s 15 (by decide) (by decide), s 16 (by decide) (by decide)]
      exact a3
    obtain ⟨Sy, hSy⟩ : ∃ Sy, Sy = xj_set S1 20 (a).toNatClampNeg b := ⟨_, rfl⟩
    have yO : ∀ c, c ≠ 20 → Sy c = S1 c := fun c h => by rw [hSy, s_set, if_neg h]
    have y20 : Sy 20 = upd (S 20) (a).toNatClampNeg b := by rw [hSy, s_set, if_pos rfl, s20]
    have Dy : yD Sy := by
      unfold yD at D1 ⊢
      rw [yO 1 (by decide), yO 6 (by decide), yO 8 (by decide), yO 12 (by decide), yO 14 (by decide), yO 15 (by decide), yO 16 (by decide)]
      exact D1
    obtain ⟨hh1, hh2⟩ := w_hear Dy (100 + a) (-1)
    have same : S1 20 (a).toNatClampNeg = b → Sy = S1 := by
      intro h
      rw [hSy]
      funext c
      by_cases y : c = 20
      · subst y
        rw [s_set, if_pos rfl]
        funext j
        rw [u_at]
        split
        · rename_i e; rw [e, h]
        · rfl
      · rw [s_set, if_neg y]
    by_cases qc : S 14 1 = 0
    · have m15 : M 32 15 = 0 := a9 qc
      obtain ⟨w1, w2⟩ := cWr_0 Dy (by rw [yO 14 (by decide), s 14 (by decide) (by decide)]; exact qc) (by rw [yO 0 (by decide)]; exact o4)
      have y3 : Sy 0 3 = 0 := by rw [yO 0 (by decide)]; exact o0
      rw [y3] at w2
      have z14 : Sy 14 1 ≤ 0 := by rw [yO 14 (by decide), s 14 (by decide) (by decide), qc]; decide
      have mk : ∀ p, f_c_markAll p Sy = (0, Sy) ∧ d_c_markAll p Sy := by
        intro p
        unfold f_c_markAll d_c_markAll
        rw [fe_c_markAll_0, de_c_markAll_0, if_pos z14]
        exact ⟨rfl, fun _ => trivial, fun q => absurd z14 q⟩
      have nM : ∀ c, c ≠ 32 → c ≠ 50 → (xj_set (xj_set M 32 0 0) 50 (a).toNatClampNeg b) c = M c := fun c h h' => by rw [s_set, if_neg h', mO 0 c h]
      have n32 : (xj_set (xj_set M 32 0 0) 50 (a).toNatClampNeg b) 32 = (xj_set M 32 0 0) 32 := by rw [s_set, if_neg (by decide)]
      refine ⟨0, 0, Sy, 0, xj_set (xj_set M 32 0 0) 50 (a).toNatClampNeg b, ?_, ?_, ?_, ?_, ?_, fun c hc => ?_, fun c hc => nM c (by omega) (by omega), Or.inl ⟨rfl, by rw [n32, m0], rfl⟩⟩
      · unfold d_c_set
        rw [o2]
        refine ⟨dv, fun _ => ⟨o1, va, fun h => ?_, fun h => ?_⟩, fun q => absurd q1 q⟩
        · rw [← same h]; exact w1
        · rw [← hSy]
          refine ⟨va, hh2, (mk _).2, ?_⟩
          rw [(mk _).1]
          exact w1
      · unfold f_c_set
        rw [if_pos q1, o2]
        show (if S1 20 (a).toNatClampNeg = b then f_c_workOff S1 else (match f_c_markAll (r_p_partsHearing (xj_set S1 20 (a).toNatClampNeg b) (100 + a) (-1)) (xj_set S1 20 (a).toNatClampNeg b) with | (_, S2) => f_c_workOff S2)) = _
        by_cases h : S1 20 (a).toNatClampNeg = b
        · rw [if_pos h, ← same h]; exact w2
        · rw [if_neg h, ← hSy, (mk _).1]; exact w2
      · unfold d_m_set
        exact ⟨dw, fun _ => ⟨fun q => absurd m15 q, fun _ => ⟨va, trivial⟩⟩, fun q => absurd qm q⟩
      · unfold f_m_set
        rw [if_pos qm, if_neg (fun q => q m15)]
      · refine yA_file hA' tt (fun c h1 h2 h3 => by rw [yO c h2, s c h1 h3]) (fun c h1 h2 h3 => nM c (by omega) h2) (fun i h => by rw [n32, mI 0 i h]) ?_
        rw [s_set, if_pos rfl, mO 0 50 (by decide), l50, y20]
      · rw [yO c (by omega), o3.1 c (by omega) (by omega)]
    · have m15 : M 32 15 = 1 := (a10 qc).1
      have m15' : M 32 15 ≠ 0 := by rw [m15]; decide
      obtain ⟨k1, M1, k2, k3⟩ := o_keep (xj_set M 32 0 0)
      have kI := k3.2.1
      obtain ⟨R1, N1⟩ := yR_open hA' (by grind) qc o3 (mO 0) (mI 0) k3
      have e50 : M1 50 = S1 20 := R1.2.1.2.2.2.2.2.2.1
      have fin : ∀ {S2 M2 : Nat → Nat → Int32}, yR S2 M2 (S 14 8) → yN S2 → yUs S1 S2 → yUm M1 M2 → S1 14 1 ≤ S2 14 1 → (∀ tag v S', f_c_workOff S2 = (tag, v, S') → d_c_workOff S2 → d_c_set a b S ∧ f_c_set a b S = (tag, v, S')) → (∀ r M', f_m_finish 2 M2 = (r, M') → d_m_finish 2 M2 → d_m_set a b M ∧ f_m_set a b M = (r, M')) → ∃ (tag : Nat) (v : Int32) (S' : Nat → Nat → Int32) (r : Int32) (M' : Nat → Nat → Int32), d_c_set a b S ∧ f_c_set a b S = (tag, v, S') ∧ d_m_set a b M ∧ f_m_set a b M = (r, M') ∧ yA S' M' (t + 60) ∧ (∀ c, 32 ≤ c → S' c = S c) ∧ (∀ c, c < 32 → M' c = M c) ∧
    ((tag = 0 ∧ M' 32 0 = 0 ∧ r = v) ∨ (tag = 2 ∧ M' 32 0 = 1) ∨ (tag = 3 ∧ M' 32 0 = 2)) := by
        intro S2 M2 hR hN hu hum hle hC hM
        obtain ⟨tag, v, S', r, M', w1, w2, w3, w4, w5⟩ := z_run (code := 2) (T0 := S 14 8) o3 k3 hu hum (Or.inl ⟨hR, hN⟩)
        obtain ⟨x1, x2⟩ := hC tag v S' w2 w1
        obtain ⟨x3, x4⟩ := hM r M' w4 w3
        refine ⟨tag, v, S', r, M', x1, x2, x3, x4, ?_⟩
        rcases w5 with ⟨e1, e2, e3, e4, e5, e6⟩ | ⟨e1, e2, e3, e4, e5, e6, e7, e8, e9, e10, e11⟩
        · have hc : S' 14 1 ≠ 0 := by
            have z := e5.2.2.2
            have z2 := hle
            rw [s 14 (by decide) (by decide)] at z2
            have z3 := a3.2.2.2.2.2.2.2.1
            grind
          have z15 : M' 32 15 = 1 := by rw [e6.2.1 15 rfl, hum.2.1 15 rfl, kI 15 (by decide) (by decide) (by decide) (by decide), mI 0 15 (by decide)]; exact m15
          have z0 : M' 32 0 = 0 := by rw [e6.2.1 0 rfl, hum.2.1 0 rfl, kI 0 (by decide) (by decide) (by decide) (by decide), m0]
          refine ⟨yA_end hA' ht e3 e4 hc z15 (by rw [e5.1 2 rfl, hu.1 2 (by omega), s 2 (by decide) (by decide)]; exact a11), fun c hc => ?_, fun c hc => ?_, Or.inl ⟨e1, z0, e2⟩⟩
          · rw [e5.1 c (by unfold fC; simp; omega), hu.1 c (by omega), o3.1 c (by omega) (by omega)]
          · rw [e6.1 c (by unfold fM; simp; omega), hum.1 c (by omega), k3.1 c (by omega) (by omega), mO 0 c (by omega)]
        · refine ⟨yA_cong hA' tt (fun c h1 h2 h3 => e4 c h1 h2 (Or.inl h3)) e6 e7 (fun _ => e5) (fun c h1 h2 => by rw [e8 c (by omega) (by omega), mO 0 c (by omega)]) ?_ ?_ ?_ ?_ ?_ (fun _ => ?_), fun c hc => e4 c (by omega) (by omega) (by omega), fun c hc => by rw [e8 c (by omega) (by omega), mO 0 c (by omega)], Or.inr (Or.inr ⟨e1, e2⟩)⟩
          · rw [e11 1 rfl (by decide), kI 1 (by decide) (by decide) (by decide) (by decide), mI 0 1 (by decide)]
          · rw [e11 5 rfl (by decide), kI 5 (by decide) (by decide) (by decide) (by decide), mI 0 5 (by decide)]
          · rw [e9, mI 0 17 (by decide)]
          · rw [e10, mI 0 24 (by decide)]
          · rw [e11 15 rfl (by decide), kI 15 (by decide) (by decide) (by decide) (by decide), mI 0 15 (by decide)]
          · rw [e11 16 rfl (by decide), kI 16 (by decide) (by decide) (by decide) (by decide), mI 0 16 (by decide)]
      by_cases h : S1 20 (a).toNatClampNeg = b
      · have hm : M1 50 (a).toNatClampNeg = b := by rw [e50]; exact h
        have sm : xj_set M1 50 (a).toNatClampNeg b = M1 := by
          funext c
          by_cases y : c = 50
          · subst y
            rw [s_set, if_pos rfl]
            funext j
            rw [u_at]
            split
            · rename_i e; rw [e, hm]
            · rfl
          · rw [s_set, if_neg y]
        refine fin R1 N1 (yUs_of (yF.rf _)) (yUm_of (yFm.rf _)) (Int32.le_refl _) (fun tag v S' g1 g2 => ⟨?_, ?_⟩) (fun r M' g1 g2 => ⟨?_, ?_⟩)
        · unfold d_c_set
          rw [o2]
          exact ⟨dv, fun _ => ⟨o1, va, fun _ => g2, fun q => absurd h q⟩, fun q => absurd q1 q⟩
        · unfold f_c_set
          rw [if_pos q1, o2]
          show (if S1 20 (a).toNatClampNeg = b then f_c_workOff S1 else _) = _
          rw [if_pos h]
          exact g1
        · unfold d_m_set
          rw [k2]
          refine ⟨dw, fun _ => ⟨fun _ => ⟨k1, va, fun _ => ⟨va, ?_⟩, fun q => absurd hm q⟩, fun q => absurd m15' q⟩, fun q => absurd qm q⟩
          rw [sm, g1]
          exact ⟨g2, trivial⟩
        · unfold f_m_set
          rw [if_pos qm, if_pos m15', k2]
          show (if M1 50 (a).toNatClampNeg = b then (match f_m_finish 2 (xj_set M1 50 (a).toNatClampNeg b) with | (v2, S2) => (v2, S2)) else _) = _
          rw [if_pos hm, sm, g1]
      · have hm : ¬ M1 50 (a).toNatClampNeg = b := by rw [e50]; exact h
        have hv : (100 : Int32) ≤ 100 + a := by grind
        have P1 : yP Sy M1 := by
          have z := R1.1
          unfold yP at z ⊢
          rw [yO 1 (by decide), yO 2 (by decide), yO 3 (by decide), yO 4 (by decide), yO 6 (by decide), yO 7 (by decide), yO 8 (by decide), yO 9 (by decide), yO 10 (by decide), yO 11 (by decide), yO 12 (by decide), yO 13 (by decide)]
          exact z
        have L4 : yL4 Sy M1 := by
          have z := R1.2.1
          unfold yL4
          rw [yO 14 (by decide), yO 15 (by decide), yO 16 (by decide), yO 17 (by decide)]
          exact ⟨z.1, z.2.1, z.2.2.1, z.2.2.2.1⟩
        have I1 : yI Sy := by
          have z := R1.2.2.2.1
          unfold yI at z ⊢
          rw [yO 1 (by decide), yO 2 (by decide), yO 3 (by decide), yO 4 (by decide), yO 5 (by decide), yO 6 (by decide), yO 8 (by decide), yO 9 (by decide), yO 10 (by decide)]
          exact z
        have Qy : yQ Sy Sy := by
          have z := yK_Q R1.2.2.2.2.1
          unfold yQ at z ⊢
          rw [yO 1 (by decide), yO 6 (by decide), yO 8 (by decide), yO 14 (by decide), yO 15 (by decide), yO 19 (by decide)]
          exact z
        obtain ⟨S2, M3, g1, g2, g3, g4, g5, g6⟩ := w_all (v := a) P1 L4 Dy I1 hv hh1 200 4000 0 Sy M1 (by decide) Dy.2.2.2.2.2.2.2.1 (by decide) (by decide) ⟨fun _ _ => rfl, fun _ _ => rfl, by rw [yO 19 (by decide)]; exact R1.2.1.2.2.2.2.2.1⟩ Qy
        have f1 : f_c_markAll (r_p_partsHearing Sy (100 + a) (-1)) Sy = (0, S2) := g1
        have f2 : d_c_markAll (r_p_partsHearing Sy (100 + a) (-1)) Sy := g2
        have f3 : f_m_markVariable a M1 = (0, M3) := g3
        have f4 : d_m_markVariable a M1 := g4
        obtain ⟨xO, xM, x49⟩ := g5
        obtain ⟨My, hMy⟩ : ∃ My, My = xj_set M3 50 (a).toNatClampNeg b := ⟨_, rfl⟩
        have zO : ∀ c, c ≠ 49 → c ≠ 50 → My c = M1 c := fun c h h' => by rw [hMy, s_set, if_neg h', xM c h]
        have z50 : My 50 = upd (M1 50) (a).toNatClampNeg b := by rw [hMy, s_set, if_pos rfl, xM 50 (by decide)]
        have z49 : My 49 = S2 19 := by rw [hMy, s_set, if_neg (by decide)]; exact x49
        have rO : ∀ c, c ≠ 19 → c ≠ 20 → S2 c = S1 c := fun c h h' => by rw [xO c h, yO c h']
        have c40 : (S1 14 1).toNatClampNeg ≤ 40 := ix_40' D1.2.2.2.2.2.2.2.1 D1.2.2.2.2.2.2.2.2.1
        have q2 := g6
        unfold yQ at q2
        rw [yO 1 (by decide), yO 6 (by decide), yO 8 (by decide), yO 14 (by decide), yO 15 (by decide)] at q2
        have q7 := (R1.2.2.2.2.1).2.2.2.2.2.2.1
        have b19 : ∀ j, 40 ≤ j → S2 19 j = S1 19 j := fun j hj => by rw [q2.2 j (by omega), (q7 j (by omega)).2]
        have e49 : M1 49 = S1 19 := R1.2.1.2.2.2.2.2.1
        have R2 : yR S2 My (S 14 8) := by
          obtain ⟨h1, h2, h3, h4, h5, h6⟩ := R1
          refine ⟨?_, ?_, ?_, ?_, ?_, ?_⟩
          · unfold yP at h1 ⊢
            rw [rO 1 (by decide) (by decide), rO 2 (by decide) (by decide), rO 3 (by decide) (by decide), rO 4 (by decide) (by decide), rO 6 (by decide) (by decide), rO 7 (by decide) (by decide), rO 8 (by decide) (by decide), rO 9 (by decide) (by decide), rO 10 (by decide) (by decide), rO 11 (by decide) (by decide), rO 12 (by decide) (by decide), rO 13 (by decide) (by decide), zO 32 (by decide) (by decide), zO 33 (by decide) (by decide), zO 34 (by decide) (by decide), zO 35 (by decide) (by decide), zO 36 (by decide) (by decide), zO 37 (by decide) (by decide), zO 38 (by decide) (by decide), zO 39 (by decide) (by decide), zO 40 (by decide) (by decide), zO 41 (by decide) (by decide), zO 42 (by decide) (by decide), zO 43 (by decide) (by decide), zO 44 (by decide) (by decide)]
            exact h1
          · obtain ⟨l17, l45, l46, l47, l48, l49, l50, l24, l51, l52⟩ := h2
            refine ⟨?_, ?_, ?_, ?_, ?_, z49, ?_, ?_, ?_, ?_⟩
            · rw [zO 32 (by decide) (by decide), rO 14 (by decide) (by decide)]; exact l17
            · rw [zO 45 (by decide) (by decide), rO 15 (by decide) (by decide)]; exact l45
            · rw [zO 46 (by decide) (by decide), rO 16 (by decide) (by decide)]; exact l46
            · rw [zO 47 (by decide) (by decide), rO 17 (by decide) (by decide)]; exact l47
            · rw [zO 48 (by decide) (by decide), rO 18 (by decide) (by decide)]; exact l48
            · rw [z50, xO 20 (by decide), y20, l50, s20]
            · rw [zO 32 (by decide) (by decide), rO 14 (by decide) (by decide)]; exact l24
            · rw [zO 51 (by decide) (by decide), rO 21 (by decide) (by decide)]; exact l51
            · rw [zO 52 (by decide) (by decide), rO 22 (by decide) (by decide)]; exact l52
          · unfold yD at h3 ⊢
            rw [rO 1 (by decide) (by decide), rO 6 (by decide) (by decide), rO 8 (by decide) (by decide), rO 12 (by decide) (by decide), rO 14 (by decide) (by decide), rO 15 (by decide) (by decide), rO 16 (by decide) (by decide)]
            exact h3
          · unfold yI at h4 ⊢
            rw [rO 1 (by decide) (by decide), rO 2 (by decide) (by decide), rO 3 (by decide) (by decide), rO 4 (by decide) (by decide), rO 5 (by decide) (by decide), rO 6 (by decide) (by decide), rO 8 (by decide) (by decide), rO 9 (by decide) (by decide), rO 10 (by decide) (by decide)]
            exact h4
          · obtain ⟨k1, k2, k3, k4, k5, k6, k7, k8⟩ := h5
            unfold yK
            rw [rO 1 (by decide) (by decide), rO 2 (by decide) (by decide), rO 6 (by decide) (by decide), rO 8 (by decide) (by decide), rO 14 (by decide) (by decide), rO 15 (by decide) (by decide), rO 16 (by decide) (by decide), rO 17 (by decide) (by decide), rO 18 (by decide) (by decide)]
            exact ⟨k1, k2, k3, k4, k5, q2.1, fun k h => ⟨(k7 k h).1, q2.2 k h⟩, k8⟩
          · unfold yC at h6 ⊢
            rw [rO 0 (by decide) (by decide), rO 14 (by decide) (by decide), zO 32 (by decide) (by decide)]
            exact h6
        have N2 : yN S2 := by
          unfold yN at N1 ⊢
          rw [rO 14 (by decide) (by decide), rO 16 (by decide) (by decide), rO 17 (by decide) (by decide)]
          exact N1
        have U2 : yUs S1 S2 := by
          refine ⟨fun c hc => rO c (by omega) (by omega), ?_, fun j hj => ?_⟩
          · unfold yBd
            rw [rO 15 (by decide) (by decide), rO 16 (by decide) (by decide), rO 17 (by decide) (by decide), rO 18 (by decide) (by decide), rO 21 (by decide) (by decide), rO 22 (by decide) (by decide)]
            exact ⟨fun j hj => ⟨rfl, rfl, rfl, rfl, b19 j hj⟩, fun _ _ => ⟨rfl, rfl⟩⟩
          · rw [xO 20 (by decide), y20, u_at, if_neg (by omega), s20]
        have U3 : yUm M1 My := by
          refine ⟨fun c hc => zO c (by omega) (by omega), fun i _ => by rw [zO 32 (by decide) (by decide)], ?_, fun j hj => ?_⟩
          · unfold yBm
            rw [zO 45 (by decide) (by decide), zO 46 (by decide) (by decide), zO 47 (by decide) (by decide), zO 48 (by decide) (by decide), zO 51 (by decide) (by decide), zO 52 (by decide) (by decide), z49, e49]
            exact ⟨fun j hj => ⟨rfl, rfl, rfl, rfl, b19 j hj⟩, fun _ _ => ⟨rfl, rfl⟩⟩
          · rw [z50, u_at, if_neg (by omega)]
        refine fin R2 N2 U2 U3 (by rw [rO 14 (by decide) (by decide)]; exact Int32.le_refl _) (fun tag v S' g1 g2 => ⟨?_, ?_⟩) (fun r M' g1 g2 => ⟨?_, ?_⟩)
        · unfold d_c_set
          rw [o2]
          refine ⟨dv, fun _ => ⟨o1, va, fun q => absurd q h, fun _ => ?_⟩, fun q => absurd q1 q⟩
          rw [← hSy]
          refine ⟨va, hh2, f2, ?_⟩
          rw [f1]
          exact g2
        · unfold f_c_set
          rw [if_pos q1, o2]
          show (if S1 20 (a).toNatClampNeg = b then f_c_workOff S1 else (match f_c_markAll (r_p_partsHearing (xj_set S1 20 (a).toNatClampNeg b) (100 + a) (-1)) (xj_set S1 20 (a).toNatClampNeg b) with | (_, S2) => f_c_workOff S2)) = _
          rw [if_neg h, ← hSy, f1]
          exact g1
        · unfold d_m_set
          rw [k2]
          refine ⟨dw, fun _ => ⟨fun _ => ⟨k1, va, fun q => absurd q hm, fun _ => ⟨f4, ?_⟩⟩, fun q => absurd m15' q⟩, fun q => absurd qm q⟩
          rw [f3]
          show vp_in a 4 ∧ (d_m_finish 2 (xj_set M3 50 (a).toNatClampNeg b) ∧ (match f_m_finish 2 (xj_set M3 50 (a).toNatClampNeg b) with | (v4, S4) => True))
          rw [← hMy, g1]
          exact ⟨va, g2, trivial⟩
        · unfold f_m_set
          rw [if_pos qm, if_pos m15', k2]
          show (if M1 50 (a).toNatClampNeg = b then _ else (match f_m_markVariable a M1 with | (_, S3) => match f_m_finish 2 (xj_set S3 50 (a).toNatClampNeg b) with | (v4, S4) => (v4, S4))) = _
          rw [if_neg hm, f3]
          show (match f_m_finish 2 (xj_set M3 50 (a).toNatClampNeg b) with | (v4, S4) => (v4, S4)) = _
          rw [← hMy, g1]
  · have qm : ¬ r_m_within (xj_set M 32 0 0) a 3 ≠ 0 := by rw [ev]; exact q1
    refine ⟨2, 0, S, 0, xj_set (xj_set M 32 0 0) 32 0 1, ?_, ?_, ?_, ?_, yA_code (yA_code hA' (Int32.le_refl _)) tt, fun _ _ => rfl, fun c hc => by rw [s_set, if_neg (by omega), mO 0 c (by omega)], Or.inr (Or.inl ⟨rfl, by rw [s_set, if_pos rfl, u_at, if_pos rfl]⟩)⟩
    · unfold d_c_set
      exact ⟨dv, fun q => absurd q q1, fun _ => trivial⟩
    · unfold f_c_set
      rw [if_neg q1]
    · unfold d_m_set
      exact ⟨dw, fun q => absurd q qm, fun _ => ⟨trivial, trivial⟩⟩
    · unfold f_m_set
      rw [if_neg qm]
      rfl
