/-! a command worked off to its end, by both -/
def yA (S M : Nat → Nat → Int32) (t : Int32) : Prop := yP S M ∧ yL S M ∧ yD S ∧ yI S ∧ yK S ∧ yN S ∧ 0 ≤ S 14 8 ∧ S 14 8 ≤ t ∧ (S 14 1 = 0 → M 32 15 = 0) ∧ (S 14 1 ≠ 0 → M 32 15 = 1 ∧ 2 ≤ S 14 0 ∧ S 14 0 ≤ 60 ∧ M 32 16 = S 14 0) ∧ S 2 0 = 0
theorem yA_cong {S M S2 M2 : Nat → Nat → Int32} {t t2 : Int32} (h : yA S M t) (ht : t ≤ t2) (hS : ∀ c, c ≠ 0 → c ≠ 14 → c < 23 → S2 c = S c) (h1 : S2 14 1 = S 14 1) (h8 : S2 14 8 = S 14 8) (h0 : S 14 1 ≠ 0 → S2 14 0 = S 14 0) (hM : ∀ c, 33 ≤ c → c ≤ 52 → M2 c = M c) (m1 : M2 32 1 = M 32 1) (m5 : M2 32 5 = M 32 5) (m17 : M2 32 17 = M 32 17) (m24 : M2 32 24 = M 32 24) (m15 : M2 32 15 = M 32 15) (m16 : S 14 1 ≠ 0 → M2 32 16 = M 32 16) : yA S2 M2 t2 := by
  have s1 := hS 1 (by decide) (by decide) (by decide)
  have s2 := hS 2 (by decide) (by decide) (by decide)
  have s3 := hS 3 (by decide) (by decide) (by decide)
  have s4 := hS 4 (by decide) (by decide) (by decide)
  have s5 := hS 5 (by decide) (by decide) (by decide)
  have s6 := hS 6 (by decide) (by decide) (by decide)
  have s7 := hS 7 (by decide) (by decide) (by decide)
  have s8 := hS 8 (by decide) (by decide) (by decide)
  have s9 := hS 9 (by decide) (by decide) (by decide)
  have s10 := hS 10 (by decide) (by decide) (by decide)
  have s11 := hS 11 (by decide) (by decide) (by decide)
  have s12 := hS 12 (by decide) (by decide) (by decide)
  have s13 := hS 13 (by decide) (by decide) (by decide)
  have s15 := hS 15 (by decide) (by decide) (by decide)
  have s16 := hS 16 (by decide) (by decide) (by decide)
  have s17 := hS 17 (by decide) (by decide) (by decide)
  have s18 := hS 18 (by decide) (by decide) (by decide)
  have s19 := hS 19 (by decide) (by decide) (by decide)
  have s20 := hS 20 (by decide) (by decide) (by decide)
  have s21 := hS 21 (by decide) (by decide) (by decide)
  have s22 := hS 22 (by decide) (by decide) (by decide)
  have n33 := hM 33 (by decide) (by decide)
  have n34 := hM 34 (by decide) (by decide)
  have n35 := hM 35 (by decide) (by decide)
  have n36 := hM 36 (by decide) (by decide)
  have n37 := hM 37 (by decide) (by decide)
  have n38 := hM 38 (by decide) (by decide)
  have n39 := hM 39 (by decide) (by decide)
  have n40 := hM 40 (by decide) (by decide)
  have n41 := hM 41 (by decide) (by decide)
  have n42 := hM 42 (by decide) (by decide)
  have n43 := hM 43 (by decide) (by decide)
  have n44 := hM 44 (by decide) (by decide)
  have n45 := hM 45 (by decide) (by decide)
  have n46 := hM 46 (by decide) (by decide)
  have n47 := hM 47 (by decide) (by decide)
  have n48 := hM 48 (by decide) (by decide)
  have n49 := hM 49 (by decide) (by decide)
  have n50 := hM 50 (by decide) (by decide)
  have n51 := hM 51 (by decide) (by decide)
  have n52 := hM 52 (by decide) (by decide)
  obtain ⟨a1, a2, a3, a4, a5, a6, a7, a8, a9, a10, a11⟩ := h
  refine ⟨?_, ?_, ?_, ?_, ?_, ?_, by rw [h8]; exact a7, by rw [h8]; exact Int32.le_trans a8 ht, ?_, ?_, by rw [s2]; exact a11⟩
  · unfold yP at a1 ⊢
    rw [m1, m5, n33, n34, n35, n36, n37, n38, n39, n40, n41, n42, n43, n44, s1, s2, s3, s4, s6, s7, s8, s9, s10, s11, s12, s13]
    exact a1
  · unfold yL at a2 ⊢
    rw [m17, m24, n45, n46, n47, n48, n49, n50, n51, n52, h1, h8, s15, s16, s17, s18, s19, s20, s21, s22]
    exact a2
  · unfold yD at a3 ⊢
    rw [s1, s6, s8, s12, h1, s15, s16]
    exact a3
  · unfold yI at a4 ⊢
    rw [s1, s2, s3, s4, s5, s6, s8, s9, s10]
    exact a4
  · unfold yK at a5 ⊢
    rw [s1, s2, s6, s8, s15, s16, s17, s18, s19, h1]
    exact a5
  · unfold yN at a6 ⊢
    rw [s16, s17, h1]
    exact a6
  · rw [h1, m15]
    exact a9
  · intro q
    rw [h1] at q
    rw [m15, h0 q, m16 q]
    exact a10 q
/-- once opened, a begun case is as a command asks it to be -/
theorem yR_open {S M Mb S1 M1 : Nat → Nat → Int32} {t : Int32} (hA : yA S M t) (ht : t ≤ 1000000) (hb : S 14 1 ≠ 0) (ho : yOp S S1) (hbc : ∀ c, c ≠ 32 → Mb c = M c) (hb32 : ∀ i, i ≠ 0 → Mb 32 i = M 32 i) (hm : yOm Mb M1) : yR S1 M1 (S 14 8) ∧ yN S1 := by
  have o := ho.1
  have mO := hm.1
  have m32 := hm.2.1
  have A1 : yA S1 M1 t := by
    refine yA_cong hA (Int32.le_refl _) (fun c h1 h2 h3 => o c h1 (Or.inl h3)) (by rw [o 14 (by decide) (by decide)]) (by rw [o 14 (by decide) (by decide)]) (fun _ => by rw [o 14 (by decide) (by decide)]) (fun c h1 h2 => by rw [mO c (by omega) (by omega), hbc c (by omega)]) ?_ ?_ ?_ ?_ ?_ (fun _ => ?_) <;> rw [m32 _ (by decide) (by decide) (by decide) (by decide), hb32 _ (by decide)]
  obtain ⟨a1, a2, a3, a4, a5, a6, a7, a8, a9, a10, a11⟩ := A1
  have b := a10 (by rw [o 14 (by decide) (by decide)]; exact hb)
  have o3 : S1 0 3 = 0 := ho.2.1
  have o4 : S1 0 4 = 0 := ho.2.2.1
  have m37 : M1 32 37 = 0 := hm.2.2.2.2.1
  have m38 : M1 32 38 = 0 := hm.2.2.2.2.2.1
  have e8 : S1 14 8 = S 14 8 := by rw [o 14 (by decide) (by decide)]
  rw [e8] at a7 a8
  refine ⟨⟨a1, a2, a3, a4, a5, ⟨by rw [e8, o3]; grind, a7, Int32.le_trans a8 ht, by rw [o3]; decide, by rw [o3]; have := b.2.1; grind, b.2.1, b.2.2.1, by rw [m37, o3], b.2.2.2, o4, m38⟩⟩, a6⟩
theorem z_run {S S1 S2 Mb M1 M2 : Nat → Nat → Int32} {T0 code : Int32} (ho : yOp S S1) (hm : yOm Mb M1) (hu : yUs S1 S2) (hum : yUm M1 M2) (hz : (yR S2 M2 T0 ∧ yN S2) ∨ (S2 0 4 ≠ 0 ∧ M2 32 38 ≠ 0)) :
    ∃ (tag : Nat) (v : Int32) (S' : Nat → Nat → Int32) (r : Int32) (M' : Nat → Nat → Int32), d_c_workOff S2 ∧ f_c_workOff S2 = (tag, v, S') ∧ d_m_finish code M2 ∧ f_m_finish code M2 = (r, M') ∧
      ((tag = 0 ∧ r = v ∧ yR S' M' T0 ∧ yN S' ∧ yF S2 S' ∧ yFm M2 M') ∨
       (tag = 3 ∧ M' 32 0 = code ∧ M' 32 38 ≠ 0 ∧ (∀ c, c ≠ 0 → c ≠ 14 → (c < 23 ∨ 31 < c) → S' c = S c) ∧ S' 14 0 = S 14 0 ∧ S' 14 1 = S 14 1 ∧ S' 14 8 = S 14 8 ∧ (∀ c, c ≠ 32 → c < 53 → M' c = Mb c) ∧ M' 32 17 = Mb 32 17 ∧ M' 32 24 = Mb 32 24 ∧ (∀ i, gM i = true → i ≠ 0 → M' 32 i = M1 32 i))) := by
  have cut : ∀ {S3 M3 : Nat → Nat → Int32}, cWc 200 0 S2 S3 → mW 200 1 M2 M3 → yUs S1 S3 → yUm M1 M3 → M3 32 38 ≠ 0 → ∃ (tag : Nat) (v : Int32) (S' : Nat → Nat → Int32) (r : Int32) (M' : Nat → Nat → Int32), d_c_workOff S2 ∧ f_c_workOff S2 = (tag, v, S') ∧ d_m_finish code M2 ∧ f_m_finish code M2 = (r, M') ∧
      ((tag = 0 ∧ r = v ∧ yR S' M' T0 ∧ yN S' ∧ yF S2 S' ∧ yFm M2 M') ∨
       (tag = 3 ∧ M' 32 0 = code ∧ M' 32 38 ≠ 0 ∧ (∀ c, c ≠ 0 → c ≠ 14 → (c < 23 ∨ 31 < c) → S' c = S c) ∧ S' 14 0 = S 14 0 ∧ S' 14 1 = S 14 1 ∧ S' 14 8 = S 14 8 ∧ (∀ c, c ≠ 32 → c < 53 → M' c = Mb c) ∧ M' 32 17 = Mb 32 17 ∧ M' 32 24 = Mb 32 24 ∧ (∀ i, gM i = true → i ≠ 0 → M' 32 i = M1 32 i))) := by
    intro S3 M3 h1 h2 h3 h4 h5
    obtain ⟨p1, M4, p2, p3, p4, p5, p6⟩ := o_put hm h4
    obtain ⟨b1, b2, b3, b4⟩ := o_back ho h3
    have w1 : d_m_workOff M2 := h2.1
    have w2 : f_m_workOff M2 = (0, M3) := h2.2
    have fO : ∀ c, c ≠ 32 → (xj_set M4 32 0 code) c = M4 c := fun c h => by rw [s_set, if_neg h]
    have fI : ∀ i, i ≠ 0 → (xj_set M4 32 0 code) 32 i = M4 32 i := fun i h => by rw [s_set, if_pos rfl, u_at, if_neg h]
    refine ⟨3, 0, (f_l_copyFrom14 S3).2, 0, xj_set M4 32 0 code, h1.1, h1.2, ?_, ?_, Or.inr ⟨rfl, ?_, ?_, b1, b2, b3, b4, fun c h h' => ?_, ?_, ?_, fun i hi h => ?_⟩⟩
    · unfold d_m_finish
      rw [w2]
      refine ⟨w1, fun _ => ⟨p1, ?_⟩, fun q => absurd h5 q⟩
      rw [p2]
      exact ⟨trivial, trivial⟩
    · unfold f_m_finish
      rw [w2]
      show (if M3 32 38 ≠ 0 then _ else _) = _
      rw [if_pos h5, p2]
      rfl
    · rw [s_set, if_pos rfl, u_at, if_pos rfl]
    · rw [fI 38 (by decide), p4 38 (by decide) (by decide)]
      exact h5
    · rw [fO c h, p3 c h h']
    · rw [fI 17 (by decide), p5]
    · rw [fI 24 (by decide), p6]
    · rw [fI i h, p4 i (by rintro rfl; exact absurd hi (by decide)) (by rintro rfl; exact absurd hi (by decide)), h4.2.1 i hi]
  rcases hz with ⟨hR, hy⟩ | ⟨h1, h2⟩
  · have c4 := hR.2.2.2.2.2.2.2.2.1
    have c4' := t_le c4
    have z0 := t_0
    rcases z_workOff 200 200 0 S2 M2 hR hy (by decide) c4 (by omega) (by omega) with ⟨S', M', w1, w2, w3, w4, w5, w6⟩ | ⟨S', M', w1, w2, w3, w4, w5⟩
    · have c8 := w3.2.2.2.2.2.2.2.2.2.2.2.2.1
      have c11 := w3.2.2.2.2.2.2.2.2.2.2.2.2.2.2.2
      have x1 : d_m_workOff M2 := w2.1
      have x2 : f_m_workOff M2 = (0, M') := w2.2
      refine ⟨0, S' 0 3, S', M' 32 37, M', w1.1, w1.2, ?_, ?_, Or.inl ⟨rfl, c8, w3, w4, w5, w6⟩⟩
      · unfold d_m_finish
        rw [x2]
        exact ⟨x1, fun q => absurd c11 q, fun _ => trivial⟩
      · unfold f_m_finish
        rw [x2]
        show (if M' 32 38 ≠ 0 then _ else _) = _
        rw [if_neg (fun q => q c11)]
    · exact cut w1 w2 (hu.tr (yUs_of w3)) (hum.tr (yUm_of w4)) w5
  · exact cut (cWc_now h1) (mW_cut h2) hu hum h2
