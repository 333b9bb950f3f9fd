/-! the operations: move, begin -/
theorem yA_code {S M : Nat → Nat → Int32} {t t2 x : Int32} (h : yA S M t) (ht : t ≤ t2) : yA S (xj_set M 32 0 x) t2 := by
  have o : ∀ c, c ≠ 32 → (xj_set M 32 0 x) c = M c := fun c h => by rw [s_set, if_neg h]
  have i : ∀ i, i ≠ 0 → (xj_set M 32 0 x) 32 i = M 32 i := fun i h => by rw [s_set, if_pos rfl, u_at, if_neg h]
  exact yA_cong h ht (fun _ _ _ _ => rfl) rfl rfl (fun _ => rfl) (fun c h1 h2 => o c (by omega)) (i 1 (by decide)) (i 5 (by decide)) (i 17 (by decide)) (i 24 (by decide)) (i 15 (by decide)) (fun _ => i 16 (by decide))
theorem yA_end {S M S' M' : Nat → Nat → Int32} {t : Int32} (hA : yA S M t) (ht : t ≤ 900000) (hR : yR S' M' (S 14 8)) (hN : yN S') (hc : S' 14 1 ≠ 0) (h15 : M' 32 15 = 1) (h2 : S' 2 0 = 0) : yA S' M' (t + 60) := by
  have b7 := hA.2.2.2.2.2.2.1
  have b8 := hA.2.2.2.2.2.2.2.1
  obtain ⟨a1, a2, a3, a4, a5, hcc⟩ := hR
  obtain ⟨c1, c2, c3, c4, c5, c6, c7, c8, c9, c10, c11⟩ := hcc
  exact ⟨a1, a2, a3, a4, a5, hN, by rw [c1]; grind, by rw [c1]; grind, fun q => absurd q hc, fun _ => ⟨h15, c6, c7, c9⟩, h2⟩
theorem l_fit {S : Nat → Nat → Int32} {a b : Int32} (hk : yK S) (h0 : 0 ≤ a) (h1 : a < S 14 1) (h : r_c_mayBeMoved S a b ≠ 0) (b2 : 2 ≤ b) (b9 : b ≤ 9) : (2 ≤ S 2 (S 15 (a).toNatClampNeg).toNatClampNeg → b = 3 ∨ b = 4 ∨ b = 9) ∧ (b = 7 → S 2 (S 15 (a).toNatClampNeg).toNatClampNeg = 1) ∧ (b = 5 → S 17 (a).toNatClampNeg = 2) ∧ (b = 6 → S 17 (a).toNatClampNeg = 3) := by
  obtain ⟨k1, k2, k3, k4, k5, k6, k7, k8⟩ := hk
  have k := k4 a h0 h1
  have k' := k5 a h0 h1
  unfold r_c_mayBeMoved r_c_stateAndKindFit at h
  have hb : b = 2 ∨ b = 3 ∨ b = 4 ∨ b = 5 ∨ b = 6 ∨ b = 7 ∨ b = 8 ∨ b = 9 := by grind
  rcases hb with rfl | rfl | rfl | rfl | rfl | rfl | rfl | rfl <;> grind
theorem dd_has {S : Nat → Nat → Int32} {a : Int32} : d_l_has S a := by
  unfold d_l_has
  repeat' (first | with_reducible exact trivial | with_reducible assumption | with_reducible apply And.intro | intro _)
theorem dd_icm {S : Nat → Nat → Int32} {a : Int32} : d_c_isCommandMove S a := by
  unfold d_c_isCommandMove
  repeat' (first | with_reducible exact trivial | with_reducible assumption | with_reducible apply And.intro | intro _)
theorem op_move {S M : Nat → Nat → Int32} {t a b : Int32} (hA : yA S M t) (ht : t ≤ 900000) (ht0 : 0 ≤ t) : ∃ (tag : Nat) (v : Int32) (S' : Nat → Nat → Int32) (r : Int32) (M' : Nat → Nat → Int32), d_c_move a b S ∧ f_c_move a b S = (tag, v, S') ∧ d_m_move a b M ∧ f_m_move a b M = (r, M') ∧ yA S' M' (t + 60) ∧ (∀ c, 32 ≤ c → S' c = S c) ∧ (∀ c, c < 32 → M' c = M c) ∧
    ((tag = 0 ∧ M' 32 0 = 0 ∧ r = v) ∨ (tag = 4 ∧ M' 32 0 = 1) ∨ (tag = 2 ∧ M' 32 0 = 2) ∨ (tag = 1 ∧ M' 32 0 = 3) ∨ (tag = 3 ∧ M' 32 0 = 4)) := by
  have hA' := hA
  have tt : t ≤ t + 60 := by grind
  obtain ⟨a1, a2, a3, a4, a5, a6, a7, a8, a9, a10, a11⟩ := hA
  have E := yE_of a1 a2 a3
  have l17 := a2.1
  have d14a := a3.2.2.2.2.2.2.2.1
  have d14b := a3.2.2.2.2.2.2.2.2.1
  have m0 : ∀ x : Int32, (xj_set M 32 0 x) 32 0 = x := fun x => by rw [s_set, if_pos rfl, u_at, if_pos rfl]
  have mO : ∀ (x : Int32) c, c ≠ 32 → (xj_set M 32 0 x) c = M c := fun x c h => by rw [s_set, if_neg h]
  have g1 := dd_has (S := S) (a := a)
  have g2 := dd_icm (S := S) (a := b)
  have dr : d_m_refusal M a b := by
    unfold d_m_refusal
    refine ⟨fun _ => trivial, fun _ => ⟨fun _ => trivial, fun n0 => ⟨fun n1 => ⟨fun _ => trivial, fun _ => ⟨fun _ => ?_, fun _ => trivial⟩⟩, fun _ => trivial⟩⟩⟩
    have g := dm_allowed (b := b) E (v40 (by grind) (by rw [l17] at n1; grind) : vp_in a 40)
    repeat' (first | with_reducible exact trivial | with_reducible assumption | with_reducible apply And.intro | intro _)
  have bad : ∀ (tag : Nat) (x : Int32), d_c_move a b S → f_c_move a b S = (tag, 0, S) → r_m_refusal M a b = x → x ≠ 0 → ((tag = 4 ∧ x = 1) ∨ (tag = 2 ∧ x = 2) ∨ (tag = 1 ∧ x = 3)) → ∃ (tag : Nat) (v : Int32) (S' : Nat → Nat → Int32) (r : Int32) (M' : Nat → Nat → Int32), d_c_move a b S ∧ f_c_move a b S = (tag, v, S') ∧ d_m_move a b M ∧ f_m_move a b M = (r, M') ∧ yA S' M' (t + 60) ∧ (∀ c, 32 ≤ c → S' c = S c) ∧ (∀ c, c < 32 → M' c = M c) ∧
    ((tag = 0 ∧ M' 32 0 = 0 ∧ r = v) ∨ (tag = 4 ∧ M' 32 0 = 1) ∨ (tag = 2 ∧ M' 32 0 = 2) ∨ (tag = 1 ∧ M' 32 0 = 3) ∨ (tag = 3 ∧ M' 32 0 = 4)) := by
    intro tag x h1 h2 h3 h4 h5
    refine ⟨tag, 0, S, 0, xj_set M 32 0 x, h1, h2, ?_, ?_, yA_code hA' tt, fun _ _ => rfl, fun c hc => mO x c (by omega), ?_⟩
    · unfold d_m_move
      rw [h3]
      exact ⟨dr, fun q => absurd q h4, fun _ => trivial⟩
    · unfold f_m_move
      rw [h3, if_neg h4]
    · rw [m0]
      rcases h5 with h | h | h
      · exact Or.inr (Or.inl h)
      · exact Or.inr (Or.inr (Or.inl h))
      · exact Or.inr (Or.inr (Or.inr (Or.inl h)))
  by_cases qh : r_l_has S a ≠ 0
  · have q0 : 0 ≤ a ∧ a < S 14 1 := by
      unfold r_l_has at qh
      grind
    have q15 : M 32 15 = 1 := (a10 (by grind)).1
    by_cases qm : r_c_isCommandMove S b ≠ 0
    · have qb : 2 ≤ b ∧ b ≤ 9 := by
        unfold r_c_isCommandMove at qm
        grind
      have al := q_allowed a1 a2 a3 a4 a5 q0.1 q0.2 qb.1 qb.2
      have va : vp_in a 40 := v40 q0.1 (by grind)
      have g3 := dd_mayBeMoved (b := b) a3 va
      by_cases qa : r_c_mayBeMoved S a b ≠ 0
      · have ref : r_m_refusal M a b = 0 := by
          have z : ¬ r_m_allowed M a b = 0 := fun h => qa (al.1 h)
          unfold r_m_refusal
          rw [q15, l17, if_neg (by decide), if_neg (by grind), if_pos q0.2, if_neg (by grind), if_pos qb.2, if_neg z]
        obtain ⟨o1, S1, o2, o3⟩ := o_open S
        obtain ⟨k1, M1, k2, k3⟩ := o_keep (xj_set M 32 0 0)
        have hb : S 14 1 ≠ 0 := by grind
        obtain ⟨R1, N1⟩ := yR_open hA' (by grind) hb o3 (mO 0) (fun i h => by rw [s_set, if_pos rfl, u_at, if_neg h]) k3
        have s : ∀ c, c ≠ 0 → c < 23 → S1 c = S c := fun c h h' => o3.1 c h (Or.inl h')
        have f := l_fit a5 q0.1 q0.2 qa qb.1 qb.2
        obtain ⟨S2, M2, x1, x2, x3, x4, x5⟩ := z_make (k := a) (mv := b) R1 q0.1 (by rw [s 14 (by decide) (by decide)]; exact q0.2) (by grind) qb.2 (by rw [s 2 (by decide) (by decide), s 15 (by decide) (by decide)]; exact f.1) (by rw [s 2 (by decide) (by decide), s 15 (by decide) (by decide)]; exact f.2.1) (by rw [s 17 (by decide) (by decide)]; exact f.2.2.1) (by rw [s 17 (by decide) (by decide)]; exact f.2.2.2) (fun u u0 u1 _ h => N1 u u0 u1 h) (fun _ => N1)
        have y1 : d_c_make a b 0 S1 := x1.1
        have y2 : f_c_make a b 0 S1 = (0, S2) := x1.2
        obtain ⟨y3, y4⟩ := x3
        obtain ⟨tag, v, S', r, M', w1, w2, w3, w4, w5⟩ := z_run (code := 4) (T0 := S 14 8) o3 k3 (yUs_of x2) (yUm_of x4) (by
          rcases x5 with h | h
          · exact Or.inl ⟨h.1, h.2.2⟩
          · exact Or.inr ⟨h.1, h.2.2⟩)
        refine ⟨tag, v, S', r, M', ?_, ?_, ?_, ?_, ?_⟩
        · unfold d_c_move
          rw [o2]
          refine ⟨g1, fun _ => ⟨g2, fun _ => ⟨g3, fun _ => ⟨o1, ?_⟩, fun q => absurd qa q⟩, fun q => absurd qm q⟩, fun q => absurd qh q⟩
          refine ⟨y1, ?_⟩
          rw [y2]
          exact w1
        · unfold f_c_move
          rw [if_pos qh, if_pos qm, if_pos qa, o2]
          show (match f_c_make a b 0 S1 with | (_, S2) => f_c_workOff S2) = _
          rw [y2]
          exact w2
        · unfold d_m_move
          rw [ref, k2]
          refine ⟨dr, fun _ => ⟨k1, y3, ?_⟩, fun q => absurd rfl q⟩
          rw [y4]
          refine ⟨w3, ?_⟩
          rw [w4]
          trivial
        · unfold f_m_move
          rw [ref, if_pos rfl, k2]
          show (match f_m_make a b M1 with | (_, S2) => match f_m_finish 4 S2 with | (v3, S3) => (v3, S3)) = _
          rw [y4]
          show (match f_m_finish 4 M2 with | (v3, S3) => (v3, S3)) = _
          rw [w4]
        · rcases w5 with ⟨e1, e2, e3, e4, e5, e6⟩ | ⟨e1, e2, e3, e4, e5, e6, e7, e8, e9, e10, e11⟩
          · have F := x2.tr e5
            have Fm := x4.tr e6
            have hc : S' 14 1 ≠ 0 := by
              have z := F.2.2.2
              rw [s 14 (by decide) (by decide)] at z
              grind
            have z15 : M' 32 15 = 1 := by rw [Fm.2.1 15 rfl, k3.2.1 15 (by decide) (by decide) (by decide) (by decide), s_set, if_pos rfl, u_at, if_neg (by decide)]; exact q15
            have z0 : M' 32 0 = 0 := by rw [Fm.2.1 0 rfl, k3.2.1 0 (by decide) (by decide) (by decide) (by decide), m0]
            refine ⟨yA_end hA' ht e3 e4 hc z15 (by rw [F.1 2 rfl, s 2 (by decide) (by decide)]; exact a11), fun c hc => ?_, fun c hc => ?_, Or.inl ⟨e1, z0, e2⟩⟩
            · rw [F.1 c (by unfold fC; simp; omega), o3.1 c (by omega) (by omega)]
            · rw [Fm.1 c (by unfold fM; simp; omega), k3.1 c (by omega) (by omega), mO 0 c (by omega)]
          · refine ⟨yA_cong hA' tt (fun c h1 h2 h3 => e4 c h1 h2 (Or.inl h3)) e6 e7 (fun _ => e5) (fun c h1 h2 => by rw [e8 c (by omega) (by omega), mO 0 c (by omega)]) ?_ ?_ ?_ ?_ ?_ (fun _ => ?_), fun c hc => e4 c (by omega) (by omega) (by omega), fun c hc => by rw [e8 c (by omega) (by omega), mO 0 c (by omega)], Or.inr (Or.inr (Or.inr (Or.inr ⟨e1, e2⟩)))⟩
            · rw [e11 1 rfl (by decide), k3.2.1 1 (by decide) (by decide) (by decide) (by decide), s_set, if_pos rfl, u_at, if_neg (by decide)]
            · rw [e11 5 rfl (by decide), k3.2.1 5 (by decide) (by decide) (by decide) (by decide), s_set, if_pos rfl, u_at, if_neg (by decide)]
            · rw [e9, s_set, if_pos rfl, u_at, if_neg (by decide)]
            · rw [e10, s_set, if_pos rfl, u_at, if_neg (by decide)]
            · rw [e11 15 rfl (by decide), k3.2.1 15 (by decide) (by decide) (by decide) (by decide), s_set, if_pos rfl, u_at, if_neg (by decide)]
            · rw [e11 16 rfl (by decide), k3.2.1 16 (by decide) (by decide) (by decide) (by decide), s_set, if_pos rfl, u_at, if_neg (by decide)]
      · refine bad 1 3 ?_ ?_ ?_ (by decide) (Or.inr (Or.inr ⟨rfl, rfl⟩))
        · unfold d_c_move
          exact ⟨g1, fun _ => ⟨g2, fun _ => ⟨g3, fun q => absurd q qa, fun _ => trivial⟩, fun q => absurd qm q⟩, fun q => absurd qh q⟩
        · unfold f_c_move
          rw [if_pos qh, if_pos qm, if_neg qa]
        · have z : r_m_allowed M a b = 0 := al.2 (by simpa using qa)
          unfold r_m_refusal
          rw [q15, l17, if_neg (by decide), if_neg (by grind), if_pos q0.2, if_neg (by grind), if_pos qb.2, if_pos z]
    · refine bad 2 2 ?_ ?_ ?_ (by decide) (Or.inr (Or.inl ⟨rfl, rfl⟩))
      · unfold d_c_move
        exact ⟨g1, fun _ => ⟨g2, fun q => absurd q qm, fun _ => trivial⟩, fun q => absurd qh q⟩
      · unfold f_c_move
        rw [if_pos qh, if_neg qm]
      · have z : b < 2 ∨ ¬ b ≤ 9 := by
          unfold r_c_isCommandMove at qm
          grind
        unfold r_m_refusal
        rw [q15, l17, if_neg (by decide), if_neg (by grind), if_pos q0.2]
        rcases z with z | z
        · rw [if_pos z]
        · rw [if_neg (by grind), if_neg z]
  · refine bad 4 1 ?_ ?_ ?_ (by decide) (Or.inl ⟨rfl, rfl⟩)
    · unfold d_c_move
      exact ⟨g1, fun q => absurd q qh, fun _ => trivial⟩
    · unfold f_c_move
      rw [if_neg qh]
    · have z : a < 0 ∨ ¬ a < S 14 1 := by
        unfold r_l_has at qh
        grind
      unfold r_m_refusal
      rw [l17]
      by_cases q15 : M 32 15 = 0
      · rw [if_pos q15]
      · rw [if_neg q15]
        rcases z with z | z
        · rw [if_pos z]
        · by_cases z0 : a < 0
          · rw [if_pos z0]
          · rw [if_neg z0, if_neg z]
