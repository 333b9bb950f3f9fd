/-! begin -/
theorem yR_15 {S M : Nat → Nat → Int32} {T0 x : Int32} (hR : yR S M T0) : yR S (xj_set M 32 15 x) T0 := by
  have h : ∀ c, c ≠ 32 → (xj_set M 32 15 x) c = M c := fun c h => by rw [s_set, if_neg h]
  have h32 : ∀ i, i ≠ 15 → (xj_set M 32 15 x) 32 i = M 32 i := fun i h => by rw [s_set, if_pos rfl, u_at, if_neg h]
  obtain ⟨hp, hl, hd, hi, hk, hc⟩ := hR
  refine ⟨?_, ?_, hd, hi, hk, ?_⟩
  · unfold yP at hp ⊢
    rw [h 33 (by decide), h 34 (by decide), h 35 (by decide), h 36 (by decide), h 37 (by decide), h 38 (by decide), h 39 (by decide), h 40 (by decide), h 41 (by decide), h 42 (by decide), h 43 (by decide), h 44 (by decide), h32 1 (by decide), h32 5 (by decide)]
    exact hp
  · unfold yL at hl ⊢
    rw [h 45 (by decide), h 46 (by decide), h 47 (by decide), h 48 (by decide), h 49 (by decide), h 50 (by decide), h 51 (by decide), h 52 (by decide), h32 17 (by decide), h32 24 (by decide)]
    exact hl
  · unfold yC at hc ⊢
    rw [h32 37 (by decide), h32 16 (by decide), h32 38 (by decide)]
    exact hc
theorem op_begin {S M : Nat → Nat → Int32} {t a : Int32} (hA : yA S M t) (ht : t ≤ 900000) (ht0 : 0 ≤ t) : ∃ (tag : Nat) (v : Int32) (S' : Nat → Nat → Int32) (r : Int32) (M' : Nat → Nat → Int32), d_c_begin a S ∧ f_c_begin a S = (tag, v, S') ∧ d_m_begin a M ∧ f_m_begin a M = (r, M') ∧ yA S' M' (t + 60) ∧ (∀ c, 32 ≤ c → S' c = S c) ∧ (∀ c, c < 32 → M' c = M c) ∧
    ((tag = 0 ∧ M' 32 0 = 0 ∧ r = v) ∨ (tag = 1 ∧ M' 32 0 = 1) ∨ (tag = 2 ∧ M' 32 0 = 2) ∨ (tag = 3 ∧ M' 32 0 = 3)) := by
  have hA' := hA
  have tt : t ≤ t + 60 := by grind
  obtain ⟨a1, a2, a3, a4, a5, a6, a7, a8, a9, a10, a11⟩ := hA
  have d14a := a3.2.2.2.2.2.2.2.1
  have m0 : ∀ x y : Int32, (xj_set (xj_set M 32 0 x) 32 0 y) 32 0 = y := fun x y => by rw [s_set, if_pos rfl, u_at, if_pos rfl]
  have mO : ∀ (x y : Int32) c, c ≠ 32 → (xj_set (xj_set M 32 0 x) 32 0 y) c = M c := fun x y c h => by rw [s_set, if_neg h, s_set, if_neg h]
  have dh : d_l_hasBegun S := by
    unfold d_l_hasBegun
    repeat' (first | with_reducible exact trivial | with_reducible assumption | with_reducible apply And.intro | intro _)
  by_cases q0 : S 14 1 = 0
  · have hb : r_l_hasBegun S = 0 := by unfold r_l_hasBegun; rw [q0]; rfl
    have m15 : M 32 15 = 0 := a9 q0
    by_cases q1 : a < 2
    · refine ⟨2, 0, S, 0, xj_set (xj_set M 32 0 0) 32 0 2, ?_, ?_, ?_, ?_, yA_code (yA_code hA' (Int32.le_refl _)) tt, fun _ _ => rfl, fun c hc => mO _ _ c (by omega), Or.inr (Or.inr (Or.inl ⟨rfl, m0 _ _⟩))⟩
      · unfold d_c_begin
        exact ⟨dh, fun _ => ⟨fun _ => trivial, fun q => absurd q1 q⟩, fun q => absurd hb q⟩
      · unfold f_c_begin
        rw [if_pos hb, if_pos q1]
      · unfold d_m_begin
        exact ⟨fun _ => ⟨fun _ => ⟨trivial, trivial⟩, fun q => absurd q1 q⟩, fun q => absurd m15 q⟩
      · unfold f_m_begin
        rw [if_pos m15, if_pos q1]
        rfl
    · by_cases q2 : a ≤ 60
      · obtain ⟨o1, S1, o2, o3⟩ := o_open S
        obtain ⟨Mb, hMb⟩ : ∃ Mb, Mb = xj_set (xj_set M 32 0 0) 32 16 a := ⟨_, rfl⟩
        have bO : ∀ c, c ≠ 32 → Mb c = M c := fun c h => by rw [hMb, s_set, if_neg h, s_set, if_neg h]
        have bI : ∀ i, i ≠ 0 → i ≠ 16 → Mb 32 i = M 32 i := fun i h h' => by rw [hMb]; simp [s_set, u_at, h, h']
        have b16 : Mb 32 16 = a := by rw [hMb]; simp [s_set, u_at]
        have b0 : Mb 32 0 = 0 := by rw [hMb]; simp [s_set, u_at]
        obtain ⟨k1, M1, k2, k3⟩ := o_keep Mb
        have kI := k3.2.1
        obtain ⟨Sx, hSx⟩ : ∃ Sx, Sx = xj_set S1 14 0 a := ⟨_, rfl⟩
        have xO : ∀ c, c ≠ 14 → Sx c = S1 c := fun c h => by rw [hSx, s_set, if_neg h]
        have xI : ∀ i, i ≠ 0 → Sx 14 i = S1 14 i := fun i h => by rw [hSx, s_set, if_pos rfl, u_at, if_neg h]
        have x0 : Sx 14 0 = a := by rw [hSx, s_set, if_pos rfl, u_at, if_pos rfl]
        have s14 : S1 14 = S 14 := o3.1 14 (by decide) (by decide)
        have A1 : yA Sx M1 t := by
          refine yA_cong hA' (Int32.le_refl _) (fun c h1 h2 h3 => by rw [xO c h2, o3.1 c h1 (Or.inl h3)]) (by rw [xI 1 (by decide), s14]) (by rw [xI 8 (by decide), s14]) (fun q => absurd q0 q) (fun c h1 h2 => by rw [k3.1 c (by omega) (by omega), bO c (by omega)]) ?_ ?_ ?_ ?_ ?_ (fun q => absurd q0 q) <;> rw [kI _ (by decide) (by decide) (by decide) (by decide), bI _ (by decide) (by decide)]
        obtain ⟨e1, e2, e3, e4, e5, e6, e7, e8, e9, e10, e11⟩ := A1
        have x3 : Sx 0 3 = 0 := by rw [xO 0 (by decide)]; exact o3.2.1
        have x4 : Sx 0 4 = 0 := by rw [xO 0 (by decide)]; exact o3.2.2.1
        have x8 : Sx 14 8 = S 14 8 := by rw [xI 8 (by decide), s14]
        have x1 : Sx 14 1 = 0 := by rw [xI 1 (by decide), s14]; exact q0
        have m37 : M1 32 37 = 0 := k3.2.2.2.2.1
        have m38 : M1 32 38 = 0 := k3.2.2.2.2.2.1
        have n16 : M1 32 16 = a := by rw [kI 16 (by decide) (by decide) (by decide) (by decide), b16]
        have R1 : yR Sx M1 (S 14 8) := ⟨e1, e2, e3, e4, e5, ⟨by rw [x8, x3]; grind, a7, by grind, by rw [x3]; decide, by rw [x3, x0]; grind, by rw [x0]; grind, by rw [x0]; exact q2, by rw [m37, x3], by rw [n16, x0], x4, m38⟩⟩
        obtain ⟨S2, M2, y1, y2, y3, y4, y5, y6, y7, y8, y9⟩ := z_create (it := 0) (par := -1) (dep := 0) 597 R1 (by decide) (by decide) (Or.inl ⟨rfl, rfl⟩) (by decide)
        rcases y9 with ⟨r1, r2, r3, r4, r5, r6, r7⟩ | ⟨_, _, _, r⟩
        · have c1 : d_c_create 0 (-1) 0 Sx := y1.1
          have c2 : f_c_create 0 (-1) 0 Sx = (0, S2) := y1.2
          obtain ⟨c3, c4⟩ := y3
          have cn : S2 14 1 = 1 := by rw [r3, x1]; rfl
          have z0 : ((0 : Int32)).toNatClampNeg = 0 := by decide
          rw [x1, z0] at r5
          have kd : S2 2 (S2 15 ((0 : Int32)).toNatClampNeg).toNatClampNeg = 0 := by
            rw [z0, r5, z0, y2.1 2 rfl]
            exact e11
          obtain ⟨S3, M3, p1, p2, p3, p4, p5⟩ := z_make (k := 0) (mv := 2) r1 (by decide) (by rw [cn]; decide) (by decide) (by decide) (fun h => by rw [kd] at h; exact absurd h (by decide)) (fun h => absurd h (by decide)) (fun h => absurd h (by decide)) (fun h => absurd h (by decide)) (fun u u0 u1 un _ => by rw [cn] at u1; exact absurd (by grind : u = 0) un) (fun h => absurd rfl h)
          have c5 : d_c_make 0 2 0 S2 := p1.1
          have c6 : f_c_make 0 2 0 S2 = (0, S3) := p1.2
          obtain ⟨c7, c8⟩ := p3
          have U0 : yUs S1 Sx := by
            refine ⟨fun c hc => xO c (by omega), yBd_O (xO 15 (by decide)) (xO 16 (by decide)) (xO 17 (by decide)) (xO 18 (by decide)) (xO 19 (by decide)) (xO 21 (by decide)) (xO 22 (by decide)), fun j _ => by rw [xO 20 (by decide)]⟩
          obtain ⟨tag, v, S', r, M', w1, w2, w3, w4, w5⟩ := z_run (code := 3) (T0 := S 14 8) o3 k3 (U0.tr (yUs_of (y2.tr p2))) (yUm_of (y4.tr p4)) (by
            rcases p5 with h | h
            · exact Or.inl ⟨h.1, h.2.2⟩
            · exact Or.inr ⟨h.1, h.2.2⟩)
          have dC : d_c_begin a S := by
            unfold d_c_begin
            rw [o2]
            refine ⟨dh, fun _ => ⟨fun q => absurd q q1, fun _ => ⟨fun _ => ⟨o1, ?_⟩, fun q => absurd q2 q⟩⟩, fun q => absurd hb q⟩
            show d_c_create 0 (-1) 0 (xj_set S1 14 0 a) ∧ (match f_c_create 0 (-1) 0 (xj_set S1 14 0 a) with | (_, S2) => d_c_make 0 2 0 S2 ∧ (match f_c_make 0 2 0 S2 with | (_, S3) => d_c_workOff S3))
            rw [← hSx, c2]
            refine ⟨c1, c5, ?_⟩
            rw [c6]
            exact w1
          have hfC : f_c_begin a S = (tag, v, S') := by
            unfold f_c_begin
            rw [if_pos hb, if_neg q1, if_pos q2, o2]
            show (match f_c_create 0 (-1) 0 (xj_set S1 14 0 a) with | (_, S2) => match f_c_make 0 2 0 S2 with | (_, S3) => f_c_workOff S3) = _
            rw [← hSx, c2]
            show (match f_c_make 0 2 0 S2 with | (_, S3) => f_c_workOff S3) = _
            rw [c6]
            exact w2
          have dM : d_m_begin a M := by
            unfold d_m_begin
            rw [← hMb, k2]
            refine ⟨fun _ => ⟨fun q => absurd q q1, fun _ => ⟨fun _ => ⟨k1, c3, ?_⟩, fun q => absurd q2 q⟩⟩, fun q => absurd m15 q⟩
            rw [c4]
            refine ⟨c7, ?_⟩
            rw [c8]
            refine ⟨w3, ?_⟩
            rw [w4]
            exact ⟨fun _ => trivial, fun _ => trivial⟩
          have hfM : f_m_begin a M = (if M' 32 38 ≠ 0 then (r, xj_set M' 32 15 0) else (r, xj_set M' 32 15 1)) := by
            unfold f_m_begin
            rw [if_pos m15, if_neg q1, if_pos q2, ← hMb, k2]
            show (match f_m_create 0 (-1) M1 with | (_, S3) => match f_m_make 0 2 S3 with | (_, S4) => match f_m_finish 3 S4 with | (v5, S5) => if (S5 32 38) ≠ 0 then ((v5, (xj_set S5 32 15 0))) else ((v5, (xj_set S5 32 15 1)))) = _
            rw [c4]
            show (match f_m_make 0 2 M2 with | (_, S4) => match f_m_finish 3 S4 with | (v5, S5) => if (S5 32 38) ≠ 0 then ((v5, (xj_set S5 32 15 0))) else ((v5, (xj_set S5 32 15 1)))) = _
            rw [c8]
            show (match f_m_finish 3 M3 with | (v5, S5) => if (S5 32 38) ≠ 0 then ((v5, (xj_set S5 32 15 0))) else ((v5, (xj_set S5 32 15 1)))) = _
            rw [w4]
          rcases w5 with ⟨v1, v2, v3, v4, v5, v6⟩ | ⟨v1, v2, v3, v4, v5, v6, v7, v8, v9, v10, v11⟩
          · have c38 : M' 32 38 = 0 := v3.2.2.2.2.2.2.2.2.2.2.2.2.2.2.2
            rw [if_neg (fun q => q c38)] at hfM
            have F := (y2.tr p2).tr v5
            have Fm := (y4.tr p4).tr v6
            have gO : ∀ c, c ≠ 32 → (xj_set M' 32 15 1) c = M' c := fun c h => by rw [s_set, if_neg h]
            have hc : S' 14 1 ≠ 0 := by
              have z := (p2.tr v5).2.2.2
              rw [cn] at z
              grind
            refine ⟨tag, v, S', r, xj_set M' 32 15 1, dC, hfC, dM, hfM, yA_end hA' ht (yR_15 v3) v4 hc (by rw [s_set, if_pos rfl, u_at, if_pos rfl]) (by rw [F.1 2 rfl]; exact e11), fun c hc => ?_, fun c hc => ?_, Or.inl ⟨v1, ?_, v2⟩⟩
            · rw [F.1 c (by unfold fC; simp; omega), xO c (by omega), o3.1 c (by omega) (by omega)]
            · rw [gO c (by omega), Fm.1 c (by unfold fM; simp; omega), k3.1 c (by omega) (by omega), bO c (by omega)]
            · rw [s_set, if_pos rfl, u_at, if_neg (by decide), Fm.2.1 0 rfl, kI 0 (by decide) (by decide) (by decide) (by decide), b0]
          · rw [if_pos v3] at hfM
            have gO : ∀ c, c ≠ 32 → (xj_set M' 32 15 0) c = M' c := fun c h => by rw [s_set, if_neg h]
            have gI : ∀ i, i ≠ 15 → (xj_set M' 32 15 0) 32 i = M' 32 i := fun i h => by rw [s_set, if_pos rfl, u_at, if_neg h]
            refine ⟨tag, v, S', r, xj_set M' 32 15 0, dC, hfC, dM, hfM, yA_cong hA' tt (fun c h1 h2 h3 => v4 c h1 h2 (Or.inl h3)) v6 v7 (fun q => absurd q0 q) (fun c h1 h2 => by rw [gO c (by omega), v8 c (by omega) (by omega), bO c (by omega)]) ?_ ?_ ?_ ?_ ?_ (fun q => absurd q0 q), fun c hc => v4 c (by omega) (by omega) (by omega), fun c hc => by rw [gO c (by omega), v8 c (by omega) (by omega), bO c (by omega)], Or.inr (Or.inr (Or.inr ⟨v1, by rw [gI 0 (by decide)]; exact v2⟩))⟩
            · rw [gI 1 (by decide), v11 1 rfl (by decide), kI 1 (by decide) (by decide) (by decide) (by decide), bI 1 (by decide) (by decide)]
            · rw [gI 5 (by decide), v11 5 rfl (by decide), kI 5 (by decide) (by decide) (by decide) (by decide), bI 5 (by decide) (by decide)]
            · rw [gI 17 (by decide), v9, bI 17 (by decide) (by decide)]
            · rw [gI 24 (by decide), v10, bI 24 (by decide) (by decide)]
            · rw [s_set, if_pos rfl, u_at, if_pos rfl, m15]
        · exfalso
          rcases r with r | r
          · rw [x1] at r
            exact absurd r (by decide)
          · rw [x3, x0] at r
            grind
      · refine ⟨2, 0, S, 0, xj_set (xj_set M 32 0 0) 32 0 2, ?_, ?_, ?_, ?_, yA_code (yA_code hA' (Int32.le_refl _)) tt, fun _ _ => rfl, fun c hc => mO _ _ c (by omega), Or.inr (Or.inr (Or.inl ⟨rfl, m0 _ _⟩))⟩
        · unfold d_c_begin
          exact ⟨dh, fun _ => ⟨fun q => absurd q q1, fun _ => ⟨fun q => absurd q q2, fun _ => trivial⟩⟩, fun q => absurd hb q⟩
        · unfold f_c_begin
          rw [if_pos hb, if_neg q1, if_neg q2]
        · unfold d_m_begin
          exact ⟨fun _ => ⟨fun q => absurd q q1, fun _ => ⟨fun q => absurd q q2, fun _ => ⟨trivial, trivial⟩⟩⟩, fun q => absurd m15 q⟩
        · unfold f_m_begin
          rw [if_pos m15, if_neg q1, if_neg q2]
          rfl
  · have hb : ¬ r_l_hasBegun S = 0 := by
      unfold r_l_hasBegun
      rw [if_neg (by grind)]
      decide
    have m15 : ¬ M 32 15 = 0 := by
      rw [(a10 q0).1]
      decide
    refine ⟨1, 0, S, 0, xj_set (xj_set M 32 0 0) 32 0 1, ?_, ?_, ?_, ?_, yA_code (yA_code hA' (Int32.le_refl _)) tt, fun _ _ => rfl, fun c hc => mO _ _ c (by omega), Or.inr (Or.inl ⟨rfl, m0 _ _⟩)⟩
    · unfold d_c_begin
      exact ⟨dh, fun q => absurd q hb, fun _ => trivial⟩
    · unfold f_c_begin
      rw [if_neg hb]
    · unfold d_m_begin
      exact ⟨fun q => absurd q m15, fun _ => ⟨trivial, trivial⟩⟩
    · unfold f_m_begin
      rw [if_neg m15]
      rfl
