/-! one move: what the class notes and the model books; both mark -/
theorem x_xor (a b : Nat) : nI a ^^^ nI b = nI (a ^^^ b) := by
  apply Int32.toBitVec_inj.1
  show BitVec.ofNat 32 a ^^^ BitVec.ofNat 32 b = BitVec.ofNat 32 (a ^^^ b)
  apply BitVec.eq_of_getLsbD_eq
  intro i hi
  simp [hi]
theorem n_fm {S : Nat → Nat → Int32} {j : Nat} (hj : j < 2 ^ 30) : r_f_floorMod S (nI j) 48 = nI (j % 48) := by
  unfold r_f_floorMod
  have e : nI j - nI j / 48 * 48 = nI (j % 48) := pk_rem (d := 48) (by omega) (by decide) (by decide)
  have x : nI j ^^^ 48 = nI (j ^^^ 48) := x_xor j 48
  have y : j ^^^ 48 < 2 ^ 30 := Nat.xor_lt_two_pow hj (by decide)
  rw [x, if_pos (nI_pos' (by omega)), e]
theorem n_note {S : Nat → Nat → Int32} {k mv : Int32} {j : Nat} (ht : S 14 8 = nI j) (hj : j < 2 ^ 30) (hk : vp_in k 40) (hm : vp_in mv 10) : d_l_note k mv S ∧ ∃ S1, f_l_note k mv S = (0, S1) ∧ S1 17 = upd (S 17) (k).toNatClampNeg (xst (mv).toNatClampNeg) ∧ S1 18 = upd (S 18) (k).toNatClampNeg (S 18 (k).toNatClampNeg + 1) ∧ S1 21 = upd (S 21) (j % 48) k ∧ S1 22 = upd (S 22) (j % 48) mv ∧ S1 14 = upd (S 14) 8 (S 14 8 + 1) ∧ (∀ c, c ≠ 14 → c ≠ 17 → c ≠ 18 → c ≠ 21 → c ≠ 22 → S1 c = S c) := by
  have e := n_fm (S := S) hj
  have hl : j % 48 < 48 := Nat.mod_lt _ (by decide)
  have c := nI_clamp (n := j % 48) (by omega)
  have v : vp_in (nI (j % 48)) 48 := vp_in_nI hl (by decide)
  constructor
  · unfold d_l_note
    rw [ht, e]
    have g : d_f_floorMod S (nI j) 48 := by
      unfold d_f_floorMod
      refine ⟨by decide, ?_⟩
      repeat' (first | with_reducible exact trivial | with_reducible assumption | with_reducible apply And.intro | intro _)
    repeat' (first | with_reducible exact trivial | with_reducible assumption | with_reducible apply And.intro | intro _)
  · unfold f_l_note
    rw [ht, e, c]
    refine ⟨_, rfl, ?_, ?_, ?_, ?_, ?_, ?_⟩
    · simp [s_set]
    · simp [s_set]
    · simp [s_set]
    · simp [s_set]
    · simp [s_set, ht]
    · intro c h1 h2 h3 h4 h5
      simp [s_set, h1, h2, h3, h4, h5]
theorem n_book {M : Nat → Nat → Int32} {k mv : Int32} {j : Nat} (ht : M 32 24 = nI j) (hj : j < 2 ^ 30) (hk : vp_in k 40) (hb : M 32 37 ≠ M 32 16) : d_m_book k mv M ∧ ∃ M1, f_m_book k mv M = (1, M1) ∧ M1 48 = upd (M 48) (k).toNatClampNeg (M 48 (k).toNatClampNeg + 1) ∧ M1 51 = upd (M 51) (j % 48) k ∧ M1 52 = upd (M 52) (j % 48) mv ∧ M1 32 = upd (upd (M 32) 37 (M 32 37 + 1)) 24 (M 32 24 + 1) ∧ (∀ c, c ≠ 32 → c ≠ 48 → c ≠ 51 → c ≠ 52 → M1 c = M c) := by
  have e : nI j - nI j / 48 * 48 = nI (j % 48) := pk_rem (d := 48) (by omega) (by decide) (by decide)
  have hl : j % 48 < 48 := Nat.mod_lt _ (by decide)
  have c := nI_clamp (n := j % 48) (by omega)
  have v : vp_in (nI (j % 48)) 48 := vp_in_nI hl (by decide)
  constructor
  · unfold d_m_book
    rw [ht, e]
    repeat' (first | with_reducible exact trivial | with_reducible assumption | with_reducible apply And.intro | intro _)
  · unfold f_m_book
    rw [if_pos hb, ht, e, c]
    refine ⟨_, rfl, ?_, ?_, ?_, ?_, ?_⟩
    · simp [s_set]
    · simp [s_set]
    · simp [s_set]
    · simp [s_set, ht]
    · intro c h1 h2 h3 h4
      simp [s_set, h1, h2, h3, h4]
theorem n_target {M : Nat → Nat → Int32} {mv : Int32} (m1 : 1 ≤ mv) (m9 : mv ≤ 9) : r_m_target M mv = xst (mv).toNatClampNeg := by
  have hb : mv = 1 ∨ mv = 2 ∨ mv = 3 ∨ mv = 4 ∨ mv = 5 ∨ mv = 6 ∨ mv = 7 ∨ mv = 8 ∨ mv = 9 := by grind
  rcases hb with rfl | rfl | rfl | rfl | rfl | rfl | rfl | rfl | rfl <;> rfl
/-! what stays -/
def fC (c : Nat) : Bool := !(c == 0 || c == 14 || c == 15 || c == 16 || c == 17 || c == 18 || c == 19 || c == 21 || c == 22)
def yBd (S S' : Nat → Nat → Int32) : Prop := (∀ j, 40 ≤ j → S' 15 j = S 15 j ∧ S' 16 j = S 16 j ∧ S' 17 j = S 17 j ∧ S' 18 j = S 18 j ∧ S' 19 j = S 19 j) ∧ (∀ j, 48 ≤ j → S' 21 j = S 21 j ∧ S' 22 j = S 22 j)
def yBm (S S' : Nat → Nat → Int32) : Prop := (∀ j, 40 ≤ j → S' 45 j = S 45 j ∧ S' 46 j = S 46 j ∧ S' 47 j = S 47 j ∧ S' 48 j = S 48 j ∧ S' 49 j = S 49 j) ∧ (∀ j, 48 ≤ j → S' 51 j = S 51 j ∧ S' 52 j = S 52 j)
theorem yBd.tr {A B C : Nat → Nat → Int32} (h : yBd A B) (g : yBd B C) : yBd A C := by
  refine ⟨fun j hj => ?_, fun j hj => ?_⟩
  · obtain ⟨a1, a2, a3, a4, a5⟩ := h.1 j hj
    obtain ⟨b1, b2, b3, b4, b5⟩ := g.1 j hj
    exact ⟨b1.trans a1, b2.trans a2, b3.trans a3, b4.trans a4, b5.trans a5⟩
  · obtain ⟨a1, a2⟩ := h.2 j hj
    obtain ⟨b1, b2⟩ := g.2 j hj
    exact ⟨b1.trans a1, b2.trans a2⟩
theorem yBm.tr {A B C : Nat → Nat → Int32} (h : yBm A B) (g : yBm B C) : yBm A C := by
  refine ⟨fun j hj => ?_, fun j hj => ?_⟩
  · obtain ⟨a1, a2, a3, a4, a5⟩ := h.1 j hj
    obtain ⟨b1, b2, b3, b4, b5⟩ := g.1 j hj
    exact ⟨b1.trans a1, b2.trans a2, b3.trans a3, b4.trans a4, b5.trans a5⟩
  · obtain ⟨a1, a2⟩ := h.2 j hj
    obtain ⟨b1, b2⟩ := g.2 j hj
    exact ⟨b1.trans a1, b2.trans a2⟩
theorem yBd_O {S S' : Nat → Nat → Int32} (h15 : S' 15 = S 15) (h16 : S' 16 = S 16) (h17 : S' 17 = S 17) (h18 : S' 18 = S 18) (h19 : S' 19 = S 19) (h21 : S' 21 = S 21) (h22 : S' 22 = S 22) : yBd S S' := by
  unfold yBd
  rw [h15, h16, h17, h18, h19, h21, h22]
  exact ⟨fun _ _ => ⟨rfl, rfl, rfl, rfl, rfl⟩, fun _ _ => ⟨rfl, rfl⟩⟩
theorem yBm_O {S S' : Nat → Nat → Int32} (h15 : S' 45 = S 45) (h16 : S' 46 = S 46) (h17 : S' 47 = S 47) (h18 : S' 48 = S 48) (h19 : S' 49 = S 49) (h21 : S' 51 = S 51) (h22 : S' 52 = S 52) : yBm S S' := by
  unfold yBm
  rw [h15, h16, h17, h18, h19, h21, h22]
  exact ⟨fun _ _ => ⟨rfl, rfl, rfl, rfl, rfl⟩, fun _ _ => ⟨rfl, rfl⟩⟩
theorem ix_40 {k : Int32} (h0 : 0 ≤ k) (h : k < 40) : (k).toNatClampNeg < 40 := by
  have z := ix_lt h0 h
  have e : ((40 : Int32)).toNatClampNeg = 40 := by decide
  omega
theorem ix_40' {k : Int32} (h0 : 0 ≤ k) (h : k ≤ 40) : (k).toNatClampNeg ≤ 40 := by
  have z := ix_le h0 h
  have e : ((40 : Int32)).toNatClampNeg = 40 := by decide
  omega
def yF (S S' : Nat → Nat → Int32) : Prop := (∀ c, fC c = true → S' c = S c) ∧ S' 14 0 = S 14 0 ∧ yBd S S' ∧ S 14 1 ≤ S' 14 1
def fM (c : Nat) : Bool := !(c == 32 || c == 45 || c == 46 || c == 47 || c == 48 || c == 49 || c == 51 || c == 52 || c == 61 || c == 62 || c == 63)
def gM (i : Nat) : Bool := !(i == 17 || i == 24 || i == 37 || i == 38 || i == 39)
def yFm (M M' : Nat → Nat → Int32) : Prop := (∀ c, fM c = true → M' c = M c) ∧ (∀ i, gM i = true → M' 32 i = M 32 i) ∧ yBm M M'
theorem yF.rf (S : Nat → Nat → Int32) : yF S S := ⟨fun _ _ => rfl, rfl, yBd_O rfl rfl rfl rfl rfl rfl rfl, Int32.le_refl _⟩
theorem yF.tr {A B C : Nat → Nat → Int32} (h : yF A B) (g : yF B C) : yF A C := ⟨fun c hc => (g.1 c hc).trans (h.1 c hc), g.2.1.trans h.2.1, h.2.2.1.tr g.2.2.1, Int32.le_trans h.2.2.2 g.2.2.2⟩
theorem yFm.rf (S : Nat → Nat → Int32) : yFm S S := ⟨fun _ _ => rfl, fun _ _ => rfl, yBm_O rfl rfl rfl rfl rfl rfl rfl⟩
theorem yFm.tr {A B C : Nat → Nat → Int32} (h : yFm A B) (g : yFm B C) : yFm A C := ⟨fun c hc => (g.1 c hc).trans (h.1 c hc), fun c hc => (g.2.1 c hc).trans (h.2.1 c hc), h.2.2.tr g.2.2⟩
theorem yP_tr {S M S' M' : Nat → Nat → Int32} (hp : yP S M) (hS : yF S S') (hM : yFm M M') : yP S' M' := by
  unfold yP at hp ⊢
  rw [hS.1 1 rfl, hS.1 2 rfl, hS.1 3 rfl, hS.1 4 rfl, hS.1 6 rfl, hS.1 7 rfl, hS.1 8 rfl, hS.1 9 rfl, hS.1 10 rfl, hS.1 11 rfl, hS.1 12 rfl, hS.1 13 rfl, hM.1 33 rfl, hM.1 34 rfl, hM.1 35 rfl, hM.1 36 rfl, hM.1 37 rfl, hM.1 38 rfl, hM.1 39 rfl, hM.1 40 rfl, hM.1 41 rfl, hM.1 42 rfl, hM.1 43 rfl, hM.1 44 rfl, hM.2.1 1 rfl, hM.2.1 5 rfl]
  exact hp
theorem yI_tr {S S' : Nat → Nat → Int32} (hi : yI S) (hS : yF S S') : yI S' := by
  unfold yI at hi ⊢
  rw [hS.1 1 rfl, hS.1 2 rfl, hS.1 3 rfl, hS.1 4 rfl, hS.1 5 rfl, hS.1 6 rfl, hS.1 8 rfl, hS.1 9 rfl, hS.1 10 rfl]
  exact hi
theorem yD_tr {S S' : Nat → Nat → Int32} (hd : yD S) (hS : yF S S') (h1 : S' 14 1 = S 14 1) (h15 : S' 15 = S 15) (h16 : S' 16 = S 16) : yD S' := by
  unfold yD at hd ⊢
  rw [hS.1 1 rfl, hS.1 6 rfl, hS.1 8 rfl, hS.1 12 rfl, h1, h15, h16]
  exact hd
def yC (S M : Nat → Nat → Int32) (T0 : Int32) : Prop := S 14 8 = T0 + S 0 3 ∧ 0 ≤ T0 ∧ T0 ≤ 1000000 ∧ 0 ≤ S 0 3 ∧ S 0 3 ≤ S 14 0 ∧ 2 ≤ S 14 0 ∧ S 14 0 ≤ 60 ∧ M 32 37 = S 0 3 ∧ M 32 16 = S 14 0 ∧ S 0 4 = 0 ∧ M 32 38 = 0
def yR (S M : Nat → Nat → Int32) (T0 : Int32) : Prop := yP S M ∧ yL S M ∧ yD S ∧ yI S ∧ yK S ∧ yC S M T0
theorem yK_Q {S : Nat → Nat → Int32} (hk : yK S) : yQ S S := by
  obtain ⟨k1, k2, k3, k4, k5, k6, k7, k8⟩ := hk
  exact ⟨k6, fun k h => (k7 k h).2⟩
theorem xst_r : ∀ n, n < 10 → 0 ≤ xst n ∧ xst n ≤ 6 := by decide +kernel
theorem xst_0 : ∀ n, n < 10 → 1 ≤ n → xst n ≠ 0 := by decide +kernel
theorem xst_6 : ∀ n, n < 10 → xst n = 6 → n = 7 := by decide +kernel
theorem i_nat10 {mv : Int32} (m0 : 0 ≤ mv) (m9 : mv ≤ 9) : ∃ n : Nat, n < 10 ∧ mv = nI n ∧ (mv).toNatClampNeg = n := by
  obtain ⟨n, hn, rfl⟩ := i_of m0
  have z := (nI_leI hn (by decide)).1 (show nI n ≤ nI 9 from m9)
  exact ⟨n, by omega, rfl, nI_clamp hn⟩
theorem z_step {S M : Nat → Nat → Int32} {T0 k mv : Int32} (hR : yR S M T0) (h0 : 0 ≤ k) (h1 : k < S 14 1) (m1 : 1 ≤ mv) (m9 : mv ≤ 9) (hb : S 0 3 ≠ S 14 0) (hk4 : 2 ≤ S 2 (S 15 (k).toNatClampNeg).toNatClampNeg → mv = 3 ∨ mv = 4 ∨ mv = 9) (hk5 : mv = 7 → S 2 (S 15 (k).toNatClampNeg).toNatClampNeg = 1) :
    ∃ S1 S2 M1 M2, d_l_note k mv (xj_set S 0 3 (S 0 3 + 1)) ∧ f_l_note k mv (xj_set S 0 3 (S 0 3 + 1)) = (0, S1) ∧ d_p_partsHearing S1 (S1 15 (k).toNatClampNeg) mv ∧ d_c_markSiblings k (r_p_partsHearing S1 (S1 15 (k).toNatClampNeg) mv) S1 ∧ f_c_markSiblings k (r_p_partsHearing S1 (S1 15 (k).toNatClampNeg) mv) S1 = (0, S2) ∧
      d_m_book k mv M ∧ f_m_book k mv M = (1, M1) ∧ d_m_mark k mv (xj_set M1 47 (k).toNatClampNeg (r_m_target M1 mv)) ∧ f_m_mark k mv (xj_set M1 47 (k).toNatClampNeg (r_m_target M1 mv)) = (0, M2) ∧
      yR S2 M2 T0 ∧ S2 0 3 = S 0 3 + 1 ∧ S2 14 1 = S 14 1 ∧ S2 15 = S 15 ∧ S2 16 = S 16 ∧ S2 17 = upd (S 17) (k).toNatClampNeg (xst (mv).toNatClampNeg) ∧ yF S S2 ∧ yFm M M2 ∧ M2 61 = M 61 ∧ M2 62 = M 62 ∧ M2 63 = M 63 ∧ M2 32 39 = M 32 39 := by
  obtain ⟨hp, hl, hd, hi, hk, hc⟩ := hR
  have hp' := hp
  have hd' := hd
  have hk' := hk
  obtain ⟨l17, l45, l46, l47, l48, l49, l50, l24, l51, l52⟩ := hl
  obtain ⟨d1, d2, d3, d4, d6, d8, d12, d14a, d14b, d15, d16⟩ := hd
  obtain ⟨k1, k2, k3, k4, k5, k6, k7, k8⟩ := hk
  obtain ⟨c1, c2, c3, c4, c5, c6, c7, c8, c9, c10, c11⟩ := hc
  have vk : vp_in k 40 := v40 h0 (by grind)
  have kn := ix_40 h0 (by grind : k < 40)
  obtain ⟨j, hj, ej⟩ := i_of (by grind : 0 ≤ S 14 8)
  have hj30 : j < 2 ^ 30 := by
    have z : S 14 8 ≤ 1000060 := by grind
    rw [ej] at z
    have := (nI_leI hj (by decide)).1 (show nI j ≤ nI 1000060 from z)
    omega
  have jl : j % 48 < 48 := Nat.mod_lt _ (by decide)
  obtain ⟨nm, hnm, enm, cnm⟩ := i_nat10 (by grind : 0 ≤ mv) m9
  have vm : vp_in mv 10 := v10 (by grind) (by grind)
  have tx : (xj_set S 0 3 (S 0 3 + 1)) 14 8 = nI j := by rw [s_set, if_neg (by decide)]; exact ej
  obtain ⟨dn, S1, fn, a17, a18, a21, a22, a14, aO⟩ := n_note tx hj30 vk vm
  obtain ⟨db, M1, fb, b48, b51, b52, b32, bO⟩ := n_book (M := M) (mv := mv) (by rw [l24]; exact ej) hj30 vk (by rw [c8, c9]; exact hb)
  have sx : ∀ c, c ≠ 0 → (xj_set S 0 3 (S 0 3 + 1)) c = S c := fun c h => by rw [s_set, if_neg h]
  rw [sx 17 (by decide)] at a17
  rw [sx 18 (by decide)] at a18
  rw [sx 21 (by decide)] at a21
  rw [sx 22 (by decide)] at a22
  rw [sx 14 (by decide)] at a14
  have a0 : S1 0 = upd (S 0) 3 (S 0 3 + 1) := by rw [aO 0 (by decide) (by decide) (by decide) (by decide) (by decide), s_set, if_pos rfl]
  have aO' : ∀ c, c ≠ 0 → c ≠ 14 → c ≠ 17 → c ≠ 18 → c ≠ 21 → c ≠ 22 → S1 c = S c := fun c g0 g1 g2 g3 g4 g5 => (aO c g1 g2 g3 g4 g5).trans (sx c g0)
  have F1 : yF S S1 := by
    refine ⟨fun c hc => ?_, by rw [a14, u_at, if_neg (by decide)], ?_, by rw [a14, u_at, if_neg (by decide)]; exact Int32.le_refl _⟩
    · refine aO' c ?_ ?_ ?_ ?_ ?_ ?_ <;> (rintro rfl; exact absurd hc (by decide))
    · unfold yBd
      rw [aO' 15 (by decide) (by decide) (by decide) (by decide) (by decide) (by decide), aO' 16 (by decide) (by decide) (by decide) (by decide) (by decide) (by decide), aO' 19 (by decide) (by decide) (by decide) (by decide) (by decide) (by decide), a17, a18, a21, a22]
      refine ⟨fun i hi => ⟨rfl, rfl, ?_, ?_, rfl⟩, fun i hi => ⟨?_, ?_⟩⟩ <;> rw [u_at, if_neg (by omega)]
  have tg := n_target (M := M1) m1 m9
  obtain ⟨Mt, hMt⟩ : ∃ Mt, Mt = xj_set M1 47 (k).toNatClampNeg (xst (mv).toNatClampNeg) := ⟨_, rfl⟩
  have t47 : Mt 47 = upd (M 47) (k).toNatClampNeg (xst (mv).toNatClampNeg) := by rw [hMt, s_set, if_pos rfl, bO 47 (by decide) (by decide) (by decide) (by decide)]
  have tO : ∀ c, c ≠ 47 → Mt c = M1 c := fun c h => by rw [hMt, s_set, if_neg h]
  have F2 : yFm M Mt := by
    refine ⟨fun c hc => ?_, fun i hi => ?_, ?_⟩
    · rw [tO c (by rintro rfl; exact absurd hc (by decide))]
      refine bO c ?_ ?_ ?_ ?_ <;> (rintro rfl; exact absurd hc (by decide))
    · rw [tO 32 (by decide), b32, u_at, u_at, if_neg (by rintro rfl; exact absurd hi (by decide)), if_neg (by rintro rfl; exact absurd hi (by decide))]
    · unfold yBm
      rw [tO 45 (by decide), tO 46 (by decide), tO 48 (by decide), tO 49 (by decide), tO 51 (by decide), tO 52 (by decide), bO 45 (by decide) (by decide) (by decide) (by decide), bO 46 (by decide) (by decide) (by decide) (by decide), bO 49 (by decide) (by decide) (by decide) (by decide), t47, b48, b51, b52]
      refine ⟨fun i hi => ⟨rfl, rfl, ?_, ?_, rfl⟩, fun i hi => ⟨?_, ?_⟩⟩ <;> rw [u_at, if_neg (by omega)]
  have e1 : S1 14 1 = S 14 1 := by rw [a14, u_at, if_neg (by decide)]
  have e8 : S1 14 8 = S 14 8 + 1 := by rw [a14, u_at, if_pos rfl]
  have e15 : S1 15 = S 15 := aO' 15 (by decide) (by decide) (by decide) (by decide) (by decide) (by decide)
  have e16 : S1 16 = S 16 := aO' 16 (by decide) (by decide) (by decide) (by decide) (by decide) (by decide)
  have e19 : S1 19 = S 19 := aO' 19 (by decide) (by decide) (by decide) (by decide) (by decide) (by decide)
  have e20 : S1 20 = S 20 := aO' 20 (by decide) (by decide) (by decide) (by decide) (by decide) (by decide)
  have P1 : yP S1 Mt := yP_tr hp' F1 F2
  have D1 : yD S1 := yD_tr hd' F1 e1 e15 e16
  have I1 : yI S1 := yI_tr hi F1
  have L1 : yL S1 Mt := by
    refine ⟨?_, ?_, ?_, ?_, ?_, ?_, ?_, ?_, ?_, ?_⟩
    · rw [tO 32 (by decide), b32, e1]; simp [u_at, l17]
    · rw [tO 45 (by decide), bO 45 (by decide) (by decide) (by decide) (by decide), e15, l45]
    · rw [tO 46 (by decide), bO 46 (by decide) (by decide) (by decide) (by decide), e16, l46]
    · rw [t47, a17, l47]
    · rw [tO 48 (by decide), b48, a18, l48]
    · rw [tO 49 (by decide), bO 49 (by decide) (by decide) (by decide) (by decide), e19, l49]
    · rw [tO 50 (by decide), bO 50 (by decide) (by decide) (by decide) (by decide), e20, l50]
    · rw [tO 32 (by decide), b32, e8]; simp [u_at, l24]
    · rw [tO 51 (by decide), b51, a21, l51]
    · rw [tO 52 (by decide), b52, a22, l52]
  have Q1 : yQ S1 S1 := by
    have q := yK_Q hk'
    unfold yQ at q ⊢
    rw [e1, e15, e19, F1.1 1 rfl, F1.1 8 rfl, F1.1 6 rfl]
    exact q
  obtain ⟨dh, S2, M2, fm, dm, fm2, dm2, X, Q2⟩ := w_mark (mv := mv) P1 L1 D1 I1 Q1 h0 (by rw [e1]; exact h1)
  have xO := X.1
  have yO := X.2.1
  have b19 : ∀ i, 40 ≤ i → S2 19 i = S1 19 i := fun i hi => by
    have cl := ix_40' d14a d14b
    rw [Q2.2 i (by rw [e1]; omega), Q1.2 i (by rw [e1]; omega)]
  have F3 : yF S1 S2 := by
    refine ⟨fun c hc => xO c (by rintro rfl; exact absurd hc (by decide)), by rw [xO 14 (by decide)], ?_, by rw [xO 14 (by decide)]; exact Int32.le_refl _⟩
    unfold yBd
    rw [xO 15 (by decide), xO 16 (by decide), xO 17 (by decide), xO 18 (by decide), xO 21 (by decide), xO 22 (by decide)]
    exact ⟨fun i hi => ⟨rfl, rfl, rfl, rfl, b19 i hi⟩, fun i hi => ⟨rfl, rfl⟩⟩
  have F4 : yFm Mt M2 := by
    refine ⟨fun c hc => yO c (by rintro rfl; exact absurd hc (by decide)), fun i _ => by rw [yO 32 (by decide)], ?_⟩
    unfold yBm
    rw [yO 45 (by decide), yO 46 (by decide), yO 47 (by decide), yO 48 (by decide), yO 51 (by decide), yO 52 (by decide), X.2.2, L1.2.2.2.2.2.1]
    exact ⟨fun i hi => ⟨rfl, rfl, rfl, rfl, b19 i hi⟩, fun i hi => ⟨rfl, rfl⟩⟩
  have g0 : S2 0 = upd (S 0) 3 (S 0 3 + 1) := by rw [xO 0 (by decide), a0]
  have g1 : S2 14 1 = S 14 1 := by rw [xO 14 (by decide), e1]
  have g15 : S2 15 = S 15 := by rw [xO 15 (by decide), e15]
  have g16 : S2 16 = S 16 := by rw [xO 16 (by decide), e16]
  have g17 : S2 17 = upd (S 17) (k).toNatClampNeg (xst (mv).toNatClampNeg) := by rw [xO 17 (by decide), a17]
  have g18 : S2 18 = upd (S 18) (k).toNatClampNeg (S 18 (k).toNatClampNeg + 1) := by rw [xO 18 (by decide), a18]
  have g2 : S2 2 = S 2 := (F1.tr F3).1 2 rfl
  rw [hMt, ← tg] at dm2 fm2
  refine ⟨S1, S2, M1, M2, dn, fn, dh, dm, fm, db, fb, dm2, fm2, ⟨yP_tr P1 F3 F4, ?_, yD_tr D1 F3 (by rw [g1, e1]) (by rw [g15, e15]) (by rw [g16, e16]), yI_tr I1 F3, ?_, ?_⟩, ?_, g1, g15, g16, g17, F1.tr F3, F2.tr F4, ?_, ?_, ?_, ?_⟩
  · obtain ⟨q1, q2, q3, q4, q5, q6, q7, q8, q9, q10⟩ := L1
    refine ⟨?_, ?_, ?_, ?_, ?_, X.2.2, ?_, ?_, ?_, ?_⟩
    · rw [yO 32 (by decide), q1, xO 14 (by decide)]
    · rw [yO 45 (by decide), q2, xO 15 (by decide)]
    · rw [yO 46 (by decide), q3, xO 16 (by decide)]
    · rw [yO 47 (by decide), q4, xO 17 (by decide)]
    · rw [yO 48 (by decide), q5, xO 18 (by decide)]
    · rw [yO 50 (by decide), q7, xO 20 (by decide)]
    · rw [yO 32 (by decide), q8, xO 14 (by decide)]
    · rw [yO 51 (by decide), q9, xO 21 (by decide)]
    · rw [yO 52 (by decide), q10, xO 22 (by decide)]
  · have xr := xst_r nm hnm
    have x6 := xst_6 nm hnm
    unfold yK
    rw [g1, g15, g16, g17, g18, g2]
    refine ⟨fun i => ?_, k2, k3, fun u u0 u1 hu => ?_, fun u u0 u1 hu => ?_, ?_, fun i hi => ⟨?_, ?_⟩, k8⟩
    · rw [u_at]
      split
      · rw [cnm]; exact xr
      · exact k1 i
    · rw [u_at]
      split
      · rename_i e
        have e' := ix_inj u0 h0 e
        subst e'
        have z := hk4 hu
        rw [cnm]
        rcases z with z | z | z
        · rw [enm] at z
          have : nm = 3 := (nI_eq (by omega) (by decide)).1 (show nI nm = nI 3 from z)
          subst this; exact Or.inr (Or.inl rfl)
        · rw [enm] at z
          have : nm = 4 := (nI_eq (by omega) (by decide)).1 (show nI nm = nI 4 from z)
          subst this; exact Or.inr (Or.inl rfl)
        · rw [enm] at z
          have : nm = 9 := (nI_eq (by omega) (by decide)).1 (show nI nm = nI 9 from z)
          subst this; exact Or.inr (Or.inr rfl)
      · exact k4 u u0 u1 hu
    · rw [u_at] at hu
      split at hu
      · rename_i e
        have e' := ix_inj u0 h0 e
        subst e'
        rw [cnm] at hu
        exact hk5 (by rw [enm, x6 hu]; rfl)
      · exact k5 u u0 u1 hu
    · have q := Q2.1
      rw [e1, e15, F1.1 1 rfl, F1.1 6 rfl, F1.1 8 rfl] at q
      rw [(F1.tr F3).1 1 rfl, (F1.tr F3).1 6 rfl, (F1.tr F3).1 8 rfl]
      exact q
    · rw [u_at, if_neg (by have := ix_lt h0 h1; omega)]
      exact (k7 i hi).1
    · have q := Q2.2
      rw [e1] at q
      exact q i hi
  · refine ⟨?_, c2, c3, ?_, ?_, ?_, ?_, ?_, ?_, ?_, ?_⟩
    · rw [xO 14 (by decide), e8, g0, u_at, if_pos rfl, c1]; grind
    · rw [g0, u_at, if_pos rfl]; grind
    · rw [g0, u_at, if_pos rfl, (F1.tr F3).2.1]; grind
    · rw [(F1.tr F3).2.1]; exact c6
    · rw [(F1.tr F3).2.1]; exact c7
    · rw [yO 32 (by decide), tO 32 (by decide), b32, g0]; simp [u_at, c8]
    · rw [(F2.tr F4).2.1 16 rfl, (F1.tr F3).2.1]; exact c9
    · rw [g0, u_at, if_neg (by decide)]; exact c10
    · rw [yO 32 (by decide), tO 32 (by decide), b32]; simp [u_at, c11]
  · rw [g0, u_at, if_pos rfl]
  · rw [yO 61 (by decide), tO 61 (by decide), bO 61 (by decide) (by decide) (by decide) (by decide)]
  · rw [yO 62 (by decide), tO 62 (by decide), bO 62 (by decide) (by decide) (by decide) (by decide)]
  · rw [yO 63 (by decide), tO 63 (by decide), bO 63 (by decide) (by decide) (by decide) (by decide)]
  · rw [yO 32 (by decide), tO 32 (by decide), b32]; simp [u_at]
