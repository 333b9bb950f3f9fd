/-! a new instance: create of the class beside create of the model -/
theorem n_add {S : Nat → Nat → Int32} {it par : Int32} (v : vp_in (S 14 1) 40) : d_l_add it par S ∧ ∃ S1, f_l_add it par S = (S 14 1, S1) ∧ S1 15 = upd (S 15) (S 14 1).toNatClampNeg it ∧ S1 16 = upd (S 16) (S 14 1).toNatClampNeg par ∧ S1 14 = upd (S 14) 1 (S 14 1 + 1) ∧ (∀ c, c ≠ 14 → c ≠ 15 → c ≠ 16 → S1 c = S c) := by
  have e : S 14 1 + 1 - 1 = S 14 1 := by grind
  refine ⟨⟨v, v, trivial⟩, ?_⟩
  unfold f_l_add
  rw [e]
  refine ⟨_, rfl, ?_, ?_, ?_, ?_⟩
  · simp [s_set]
  · simp [s_set]
  · simp [s_set]
  · intro c h1 h2 h3
    simp [s_set, h1, h2, h3]
theorem yZ_set {S : Nat → Nat → Int32} (hd : yD S) : (xj_set S 0 4 1) 0 4 ≠ 0 ∧ yD (xj_set S 0 4 1) ∧ yF S (xj_set S 0 4 1) := by
  have o : ∀ c, c ≠ 0 → (xj_set S 0 4 1) c = S c := fun c h => by rw [s_set, if_neg h]
  have F : yF S (xj_set S 0 4 1) := ⟨fun c hc => o c (by rintro rfl; exact absurd hc (by decide)), by rw [o 14 (by decide)], yBd_O (o 15 (by decide)) (o 16 (by decide)) (o 17 (by decide)) (o 18 (by decide)) (o 19 (by decide)) (o 21 (by decide)) (o 22 (by decide)), by rw [o 14 (by decide)]; exact Int32.le_refl _⟩
  refine ⟨?_, yD_tr hd F (by rw [o 14 (by decide)]) (o 15 (by decide)) (o 16 (by decide)), F⟩
  rw [s_set, if_pos rfl, u_at, if_pos rfl]
  decide
theorem z_create {S M : Nat → Nat → Int32} {T0 it par dep : Int32} (n : Nat) (hR : yR S M T0) (hit0 : 0 ≤ it) (hit1 : it < 12) (hpar : (par = -1 ∧ it = 0) ∨ (0 ≤ par ∧ par < S 14 1 ∧ S 15 (par).toNatClampNeg < it)) (hdep : dep ≤ 12) :
    ∃ S' M', cCr (n + 3) it par dep S S' ∧ yF S S' ∧ mCr it par M M' ∧ yFm M M' ∧ M' 61 = M 61 ∧ M' 62 = M 62 ∧ M' 63 = M 63 ∧ M' 32 39 = M 32 39 ∧
      ((yR S' M' T0 ∧ S' 0 3 = S 0 3 + 1 ∧ S' 14 1 = S 14 1 + 1 ∧ (∀ j, j ≠ (S 14 1).toNatClampNeg → S' 15 j = S 15 j ∧ S' 16 j = S 16 j ∧ S' 17 j = S 17 j) ∧ S' 15 (S 14 1).toNatClampNeg = it ∧ S' 16 (S 14 1).toNatClampNeg = par ∧ S' 17 (S 14 1).toNatClampNeg = 0) ∨ (S' 0 4 ≠ 0 ∧ yD S' ∧ M' 32 38 ≠ 0 ∧ (S 14 1 = 40 ∨ S 0 3 = S 14 0))) := by
  obtain ⟨hp, hl, hd, hi, hk, hc⟩ := hR
  have hd' := hd
  have hk' := hk
  obtain ⟨l17, l45, l46, l47, l48, l49, l50, l24, l51, l52⟩ := hl
  obtain ⟨d1, d2, d3, d4, d6, d8, d12, d14a, d14b, d15, d16⟩ := hd
  obtain ⟨k1, k2, k3, k4, k5, k6, k7, k8⟩ := hk
  obtain ⟨c1, c2, c3, c4, c5, c6, c7, c8, c9, c10, c11⟩ := hc
  by_cases q40 : S 14 1 = 40
  · obtain ⟨z1, z2, z3⟩ := yZ_set hd'
    refine ⟨xj_set S 0 4 1, xj_set M 32 38 1, cCr_full c10 q40, z3, mCr_full c11 (by rw [l17]; exact q40), ⟨fun c hc => ?_, fun i hi => ?_, ?_⟩, ?_, ?_, ?_, ?_, Or.inr ⟨z1, z2, ?_, Or.inl q40⟩⟩
    · rw [s_set, if_neg (by rintro rfl; exact absurd hc (by decide))]
    · rw [s_set, if_pos rfl, u_at, if_neg (by rintro rfl; exact absurd hi (by decide))]
    · apply yBm_O <;> rw [s_set, if_neg (by decide)]
    · rw [s_set, if_neg (by decide)]
    · rw [s_set, if_neg (by decide)]
    · rw [s_set, if_neg (by decide)]
    · rw [s_set, if_pos rfl, u_at, if_neg (by decide)]
    · rw [s_set, if_pos rfl, u_at, if_pos rfl]; decide
  · have hlt : S 14 1 < 40 := by grind
    have vc : vp_in (S 14 1) 40 := v40 d14a hlt
    have kn := ix_40 d14a hlt
    obtain ⟨da, Sa, fa, a15, a16, a14, aO⟩ := n_add (it := it) (par := par) vc
    have Fa : yF S Sa := by
      refine ⟨fun c hc => ?_, by rw [a14, u_at, if_neg (by decide)], ?_, by rw [a14, u_at, if_pos rfl]; grind⟩
      · refine aO c ?_ ?_ ?_ <;> (rintro rfl; exact absurd hc (by decide))
      · unfold yBd
        rw [a15, a16, aO 17 (by decide) (by decide) (by decide), aO 18 (by decide) (by decide) (by decide), aO 19 (by decide) (by decide) (by decide), aO 21 (by decide) (by decide) (by decide), aO 22 (by decide) (by decide) (by decide)]
        refine ⟨fun i hi => ⟨?_, ?_, rfl, rfl, rfl⟩, fun i hi => ⟨rfl, rfl⟩⟩ <;> rw [u_at, if_neg (by omega)]
    have hDa : yD Sa := by
      have hS := Fa
      unfold yD
      rw [hS.1 1 rfl, hS.1 6 rfl, hS.1 8 rfl, hS.1 12 rfl, a14, a15, a16]
      refine ⟨d1, d2, d3, d4, d6, d8, d12, ?_, ?_, fun k => ?_, fun k => ?_⟩
      · rw [u_at, if_pos rfl]; grind
      · rw [u_at, if_pos rfl]; grind
      · rw [u_at]; split
        · exact ⟨hit0, hit1⟩
        · exact d15 k
      · rw [u_at]; split
        · grind
        · exact d16 k
    by_cases qb : S 0 3 = S 14 0
    · obtain ⟨z1, z2, z3⟩ := yZ_set hDa
      have m1 : cMk (n + 2) (S 14 1) 0 dep Sa (xj_set Sa 0 4 1) := cMk_full (by rw [aO 0 (by decide) (by decide) (by decide)]; exact c10) (by rw [aO 0 (by decide) (by decide) (by decide), a14, u_at, if_neg (by decide)]; exact qb)
      have mb : ∀ c, c ≠ 48 → (xj_set M 48 (M 32 17).toNatClampNeg 0) c = M c := fun c h => by rw [s_set, if_neg h]
      have fb : f_m_book (M 32 17) 0 (xj_set M 48 (M 32 17).toNatClampNeg 0) = (0, xj_set (xj_set M 48 (M 32 17).toNatClampNeg 0) 32 38 1) := by
        unfold f_m_book
        rw [if_neg]
        rw [mb 32 (by decide), c8, c9]
        exact fun h => h qb
      have db : d_m_book (M 32 17) 0 (xj_set M 48 (M 32 17).toNatClampNeg 0) := by
        unfold d_m_book
        refine ⟨fun h => absurd ?_ h, fun _ => trivial⟩
        rw [mb 32 (by decide), c8, c9]
        exact qb
      refine ⟨xj_set Sa 0 4 1, _, cCr_go c10 q40 da fa m1, Fa.tr z3, mCr_bk c11 (by rw [l17]; exact q40) (by rw [l17]; exact vc) db fb, ⟨fun c hc => ?_, fun i hi => ?_, ?_⟩, ?_, ?_, ?_, ?_, Or.inr ⟨z1, z2, ?_, Or.inr qb⟩⟩
      · rw [s_set, if_neg (by rintro rfl; exact absurd hc (by decide)), mb c (by rintro rfl; exact absurd hc (by decide))]
      · rw [s_set, if_pos rfl, u_at, if_neg (by rintro rfl; exact absurd hi (by decide)), mb 32 (by decide)]
      · unfold yBm
        have k17 : (M 32 17).toNatClampNeg < 40 := by rw [l17]; exact kn
        simp only [s_set]
        refine ⟨fun i hi => ⟨rfl, rfl, rfl, ?_, rfl⟩, fun i hi => ⟨rfl, rfl⟩⟩
        show upd (M 48) (M 32 17).toNatClampNeg 0 i = M 48 i
        rw [u_at, if_neg (by omega)]
      · rw [s_set, if_neg (by decide), mb 61 (by decide)]
      · rw [s_set, if_neg (by decide), mb 62 (by decide)]
      · rw [s_set, if_neg (by decide), mb 63 (by decide)]
      · rw [s_set, if_pos rfl, u_at, if_neg (by decide), mb 32 (by decide)]
      · rw [s_set, if_pos rfl, u_at, if_pos rfl]; decide
    · obtain ⟨j, hj, ej⟩ := i_of (by grind : 0 ≤ S 14 8)
      have jl : j % 48 < 48 := Nat.mod_lt _ (by decide)
      have hj30 : j < 2 ^ 30 := by
        have z : S 14 8 ≤ 1000060 := by grind
        rw [ej] at z
        have := (nI_leI hj (by decide)).1 (show nI j ≤ nI 1000060 from z)
        omega
      have b0 : Sa 0 = S 0 := aO 0 (by decide) (by decide) (by decide)
      have tx : (xj_set Sa 0 3 (Sa 0 3 + 1)) 14 8 = nI j := by rw [s_set, if_neg (by decide), a14, u_at, if_neg (by decide)]; exact ej
      obtain ⟨dn, S1, fn, n17, n18, n21, n22, n14, nO⟩ := n_note (k := S 14 1) (mv := 0) tx hj30 vc (v10 (by decide) (by decide))
      have sx : ∀ c, c ≠ 0 → (xj_set Sa 0 3 (Sa 0 3 + 1)) c = Sa c := fun c h => by rw [s_set, if_neg h]
      rw [sx 17 (by decide), aO 17 (by decide) (by decide) (by decide)] at n17
      rw [sx 18 (by decide), aO 18 (by decide) (by decide) (by decide)] at n18
      rw [sx 21 (by decide), aO 21 (by decide) (by decide) (by decide)] at n21
      rw [sx 22 (by decide), aO 22 (by decide) (by decide) (by decide)] at n22
      rw [sx 14 (by decide), a14] at n14
      have n0 : S1 0 = upd (S 0) 3 (S 0 3 + 1) := by rw [nO 0 (by decide) (by decide) (by decide) (by decide) (by decide), s_set, if_pos rfl, b0]
      have n15 : S1 15 = upd (S 15) (S 14 1).toNatClampNeg it := by rw [nO 15 (by decide) (by decide) (by decide) (by decide) (by decide), sx 15 (by decide), a15]
      have n16 : S1 16 = upd (S 16) (S 14 1).toNatClampNeg par := by rw [nO 16 (by decide) (by decide) (by decide) (by decide) (by decide), sx 16 (by decide), a16]
      have n19 : S1 19 = S 19 := by rw [nO 19 (by decide) (by decide) (by decide) (by decide) (by decide), sx 19 (by decide), aO 19 (by decide) (by decide) (by decide)]
      have n20 : S1 20 = S 20 := by rw [nO 20 (by decide) (by decide) (by decide) (by decide) (by decide), sx 20 (by decide), aO 20 (by decide) (by decide) (by decide)]
      have F1 : yF S S1 := by
        refine ⟨fun c hc => ?_, by rw [n14, u_at, if_neg (by decide), u_at, if_neg (by decide)], ?_, by rw [n14, u_at, if_neg (by decide), u_at, if_pos rfl]; grind⟩
        · rw [nO c (by rintro rfl; exact absurd hc (by decide)) (by rintro rfl; exact absurd hc (by decide)) (by rintro rfl; exact absurd hc (by decide)) (by rintro rfl; exact absurd hc (by decide)) (by rintro rfl; exact absurd hc (by decide)), sx c (by rintro rfl; exact absurd hc (by decide))]
          exact Fa.1 c hc
        · unfold yBd
          rw [n15, n16, n17, n18, n19, n21, n22]
          refine ⟨fun i hi => ⟨?_, ?_, ?_, ?_, rfl⟩, fun i hi => ⟨?_, ?_⟩⟩ <;> rw [u_at, if_neg (by omega)]
      have e1 : S1 14 1 = S 14 1 + 1 := by rw [n14]; simp [u_at]
      have e8 : S1 14 8 = S 14 8 + 1 := by rw [n14]; simp [u_at]
      have mb : ∀ c, c ≠ 48 → (xj_set M 48 (M 32 17).toNatClampNeg 0) c = M c := fun c h => by rw [s_set, if_neg h]
      have mb48 : (xj_set M 48 (M 32 17).toNatClampNeg 0) 48 = upd (M 48) (M 32 17).toNatClampNeg 0 := by rw [s_set, if_pos rfl]
      obtain ⟨db, M1, fb, o48, o51, o52, o32, oO⟩ := n_book (M := xj_set M 48 (M 32 17).toNatClampNeg 0) (k := M 32 17) (mv := 0) (by rw [mb 32 (by decide), l24]; exact ej) hj30 (by rw [l17]; exact vc) (by rw [mb 32 (by decide), c8, c9]; exact qb)
      rw [mb48] at o48
      rw [mb 51 (by decide)] at o51
      rw [mb 52 (by decide)] at o52
      rw [mb 32 (by decide)] at o32
      obtain ⟨Mt, hMt⟩ : ∃ Mt, Mt = ymade M1 (M 32 17) it par := ⟨_, rfl⟩
      have y17 : M1 32 17 = M 32 17 := by rw [o32]; simp [u_at]
      have t32 : Mt 32 = upd (M1 32) 17 (M 32 17 + 1) := by rw [hMt, ← y17]; simp [ymade, s_set]
      have t45 : Mt 45 = upd (M 45) (M 32 17).toNatClampNeg it := by rw [hMt]; simp [ymade, s_set]; rw [oO 45 (by decide) (by decide) (by decide) (by decide), mb 45 (by decide)]
      have t46 : Mt 46 = upd (M 46) (M 32 17).toNatClampNeg par := by rw [hMt]; simp [ymade, s_set]; rw [oO 46 (by decide) (by decide) (by decide) (by decide), mb 46 (by decide)]
      have t47 : Mt 47 = upd (M 47) (M 32 17).toNatClampNeg 0 := by rw [hMt]; simp [ymade, s_set]; rw [oO 47 (by decide) (by decide) (by decide) (by decide), mb 47 (by decide)]
      have t49 : Mt 49 = upd (M 49) (M 32 17).toNatClampNeg 0 := by rw [hMt]; simp [ymade, s_set]; rw [oO 49 (by decide) (by decide) (by decide) (by decide), mb 49 (by decide)]
      have tO : ∀ c, c ≠ 32 → c ≠ 45 → c ≠ 46 → c ≠ 47 → c ≠ 49 → Mt c = M1 c := by
        intro c h1 h2 h3 h4 h5
        rw [hMt]
        simp [ymade, s_set, h1, h2, h3, h4, h5]
      have F2 : yFm M Mt := by
        refine ⟨fun c hc => ?_, fun i hi => ?_, ?_⟩
        · rw [tO c (by rintro rfl; exact absurd hc (by decide)) (by rintro rfl; exact absurd hc (by decide)) (by rintro rfl; exact absurd hc (by decide)) (by rintro rfl; exact absurd hc (by decide)) (by rintro rfl; exact absurd hc (by decide)), oO c (by rintro rfl; exact absurd hc (by decide)) (by rintro rfl; exact absurd hc (by decide)) (by rintro rfl; exact absurd hc (by decide)) (by rintro rfl; exact absurd hc (by decide)), mb c (by rintro rfl; exact absurd hc (by decide))]
        · rw [t32, o32, u_at, u_at, u_at, if_neg (by rintro rfl; exact absurd hi (by decide)), if_neg (by rintro rfl; exact absurd hi (by decide)), if_neg (by rintro rfl; exact absurd hi (by decide))]
        · have k17 : (M 32 17).toNatClampNeg < 40 := by rw [l17]; exact kn
          unfold yBm
          rw [t45, t46, t47, t49, tO 48 (by decide) (by decide) (by decide) (by decide) (by decide), tO 51 (by decide) (by decide) (by decide) (by decide) (by decide), tO 52 (by decide) (by decide) (by decide) (by decide) (by decide), o48, o51, o52]
          refine ⟨fun i hi => ⟨?_, ?_, ?_, ?_, ?_⟩, fun i hi => ⟨?_, ?_⟩⟩
          · rw [u_at, if_neg (by omega)]
          · rw [u_at, if_neg (by omega)]
          · rw [u_at, if_neg (by omega)]
          · rw [u_at, if_neg (by omega), u_at, if_neg (by omega)]
          · rw [u_at, if_neg (by omega)]
          · rw [u_at, if_neg (by omega)]
          · rw [u_at, if_neg (by omega)]
      have z18 : S 18 (S 14 1).toNatClampNeg = 0 := (k7 _ (Nat.le_refl _)).1
      have z19 : S 19 (S 14 1).toNatClampNeg = 0 := (k7 _ (Nat.le_refl _)).2
      have P1 : yP S1 Mt := yP_tr hp F1 F2
      have I1 : yI S1 := yI_tr hi F1
      have D1 : yD S1 := by
        unfold yD
        rw [F1.1 1 rfl, F1.1 6 rfl, F1.1 8 rfl, F1.1 12 rfl, e1, n15, n16]
        refine ⟨d1, d2, d3, d4, d6, d8, d12, by grind, by grind, fun k => ?_, fun k => ?_⟩
        · rw [u_at]; split
          · exact ⟨hit0, hit1⟩
          · exact d15 k
        · rw [u_at]; split
          · grind
          · exact d16 k
      have L1 : yL S1 Mt := by
        refine ⟨?_, ?_, ?_, ?_, ?_, ?_, ?_, ?_, ?_, ?_⟩
        · rw [t32, u_at, if_pos rfl, e1, l17]
        · rw [t45, n15, l45, l17]
        · rw [t46, n16, l46, l17]
        · rw [t47, n17, l47, l17]; rfl
        · rw [tO 48 (by decide) (by decide) (by decide) (by decide) (by decide), o48, n18, l48, l17]
          funext i
          simp only [u_at]
          by_cases y : i = (S 14 1).toNatClampNeg
          · simp [y, z18]
          · simp [y]
        · rw [t49, n19, l49, l17]
          funext i
          rw [u_at]
          split
          · rename_i y; rw [y, z19]
          · rfl
        · rw [tO 50 (by decide) (by decide) (by decide) (by decide) (by decide), oO 50 (by decide) (by decide) (by decide) (by decide), mb 50 (by decide), n20, l50]
        · rw [t32, u_at, if_neg (by decide), o32, u_at, if_pos rfl, e8, l24]
        · rw [tO 51 (by decide) (by decide) (by decide) (by decide) (by decide), o51, n21, l51, l17]
        · rw [tO 52 (by decide) (by decide) (by decide) (by decide) (by decide), o52, n22, l52]
      have cle : (S 14 1 + 1).toNatClampNeg = (S 14 1).toNatClampNeg + 1 := ix_1 d14a hlt
      have Q1 : yQ S1 S1 := by
        unfold yQ
        rw [e1, n15, n19, F1.1 1 rfl, F1.1 8 rfl, F1.1 6 rfl]
        refine ⟨fun u b u0 u1 hb hv => ?_, fun k h => (k7 k (by omega)).2⟩
        by_cases y : u = S 14 1
        · rw [y, z19, xb_0] at hv
          exact Bool.noConfusion hv
        · rw [u_at, if_neg (ix_ne u0 d14a y)]
          exact k6 u b u0 (by grind) hb hv
      obtain ⟨dh, S2, M2, fm, dm, fm2, dm2, X, Q2⟩ := w_mark (mv := 0) (k := S 14 1) P1 L1 D1 I1 Q1 d14a (by rw [e1]; grind)
      have xO := X.1
      have yO := X.2.1
      have b19 : ∀ i, 40 ≤ i → S2 19 i = S1 19 i := fun i hi => by
        rw [Q2.2 i (by rw [e1, cle]; omega), Q1.2 i (by rw [e1, cle]; omega)]
      have F3 : yF S1 S2 := by
        refine ⟨fun c hc => xO c (by rintro rfl; exact absurd hc (by decide)), by rw [xO 14 (by decide)], ?_, by rw [xO 14 (by decide)]; exact Int32.le_refl _⟩
        unfold yBd
        rw [xO 15 (by decide), xO 16 (by decide), xO 17 (by decide), xO 18 (by decide), xO 21 (by decide), xO 22 (by decide)]
        exact ⟨fun i hi => ⟨rfl, rfl, rfl, rfl, b19 i hi⟩, fun i hi => ⟨rfl, rfl⟩⟩
      have F4 : yFm Mt M2 := by
        refine ⟨fun c hc => yO c (by rintro rfl; exact absurd hc (by decide)), fun i _ => by rw [yO 32 (by decide)], ?_⟩
        unfold yBm
        rw [yO 45 (by decide), yO 46 (by decide), yO 47 (by decide), yO 48 (by decide), yO 51 (by decide), yO 52 (by decide), X.2.2, L1.2.2.2.2.2.1]
        exact ⟨fun i hi => ⟨rfl, rfl, rfl, rfl, b19 i hi⟩, fun i hi => ⟨rfl, rfl⟩⟩
      have g0 : S2 0 = upd (S 0) 3 (S 0 3 + 1) := by rw [xO 0 (by decide), n0]
      have g1 : S2 14 1 = S 14 1 + 1 := by rw [xO 14 (by decide), e1]
      have g15 : S2 15 = upd (S 15) (S 14 1).toNatClampNeg it := by rw [xO 15 (by decide), n15]
      have g16 : S2 16 = upd (S 16) (S 14 1).toNatClampNeg par := by rw [xO 16 (by decide), n16]
      have g17 : S2 17 = upd (S 17) (S 14 1).toNatClampNeg 0 := by rw [xO 17 (by decide), n17]; rfl
      have g18 : S2 18 = upd (S 18) (S 14 1).toNatClampNeg (S 18 (S 14 1).toNatClampNeg + 1) := by rw [xO 18 (by decide), n18]
      have g2 : S2 2 = S 2 := (F1.tr F3).1 2 rfl
      have vi : vp_in (S2 15 (S 14 1).toNatClampNeg) 12 := by rw [g15, u_at, if_pos rfl]; exact v12 hit0 hit1
      have cm : cMk (n + 2) (S 14 1) 0 dep Sa S2 := by
        have h0a : Sa 0 4 = 0 := by rw [b0]; exact c10
        have h1a : Sa 0 3 ≠ Sa 14 0 := by rw [b0, a14, u_at, if_neg (by decide)]; exact qb
        by_cases qs : S2 2 (S2 15 (S 14 1).toNatClampNeg).toNatClampNeg = 0
        · exact cMk_stg h0a h1a hdep dn fn vc dh dm fm vi qs (by decide) (by decide) (cMw_no (Or.inl rfl))
        · exact cMk_leaf h0a h1a hdep dn fn vc dh dm fm vi qs (by decide) (by decide)
      rw [hMt, ← l17] at fm2 dm2
      refine ⟨S2, M2, cCr_go c10 q40 da fa cm, F1.tr F3, mCr_go c11 (by rw [l17]; exact q40) (by rw [l17]; exact vc) db fb dm2 fm2, F2.tr F4, ?_, ?_, ?_, ?_, Or.inl ⟨⟨yP_tr P1 F3 F4, ?_, ?_, yI_tr I1 F3, ?_, ?_⟩, ?_, g1, fun i hi => ?_, ?_, ?_, ?_⟩⟩
      · rw [yO 61 (by decide), tO 61 (by decide) (by decide) (by decide) (by decide) (by decide), oO 61 (by decide) (by decide) (by decide) (by decide), mb 61 (by decide)]
      · rw [yO 62 (by decide), tO 62 (by decide) (by decide) (by decide) (by decide) (by decide), oO 62 (by decide) (by decide) (by decide) (by decide), mb 62 (by decide)]
      · rw [yO 63 (by decide), tO 63 (by decide) (by decide) (by decide) (by decide) (by decide), oO 63 (by decide) (by decide) (by decide) (by decide), mb 63 (by decide)]
      · rw [yO 32 (by decide), t32, o32]; simp [u_at]
      · obtain ⟨q1, q2, q3, q4, q5, q6, q7, q8, q9, q10⟩ := L1
        refine ⟨?_, ?_, ?_, ?_, ?_, X.2.2, ?_, ?_, ?_, ?_⟩
        · rw [yO 32 (by decide), q1, xO 14 (by decide)]
        · rw [yO 45 (by decide), q2, xO 15 (by decide)]
        · rw [yO 46 (by decide), q3, xO 16 (by decide)]
        · rw [yO 47 (by decide), q4, xO 17 (by decide)]
        · rw [yO 48 (by decide), q5, xO 18 (by decide)]
        · rw [yO 50 (by decide), q7, xO 20 (by decide)]
        · rw [yO 32 (by decide), q8, xO 14 (by decide)]
        · rw [yO 51 (by decide), q9, xO 21 (by decide)]
        · rw [yO 52 (by decide), q10, xO 22 (by decide)]
      · exact yD_tr D1 F3 (by rw [g1, e1]) (by rw [g15, n15]) (by rw [g16, n16])
      · have ne : ∀ u : Int32, 0 ≤ u → u < S 14 1 → (u).toNatClampNeg ≠ (S 14 1).toNatClampNeg := fun u u0 u1 => ix_ne u0 d14a (by grind)
        have lt : ∀ u : Int32, u < S 14 1 + 1 → u ≠ S 14 1 → u < S 14 1 := fun u h1 h2 => by grind
        unfold yK
        rw [g1, g15, g16, g17, g18, g2]
        refine ⟨fun i => ?_, fun u u0 u1 hu => ?_, fun u u0 u1 hu => ?_, fun u u0 u1 hu => ?_, fun u u0 u1 hu => ?_, ?_, fun i hi => ⟨?_, ?_⟩, fun u u0 u1 => ?_⟩
        · rw [u_at]; split
          · exact ⟨by decide, by decide⟩
          · exact k1 i
        · by_cases y : u = S 14 1
          · subst y
            simp only [u_at, if_pos] at hu ⊢
            rcases hpar with ⟨h, _⟩ | ⟨h1, h2, h3⟩
            · exact absurd hu (by rw [h]; decide)
            · rw [if_neg (ne par h1 h2)]; exact h3
          · have u1' := lt u u1 y
            rw [u_at, if_neg (ne u u0 u1')] at hu
            rw [u_at (S 16), if_neg (ne u u0 u1'), u_at, if_neg (ne _ hu (k8 u u0 u1')), u_at, if_neg (ne u u0 u1')]
            exact k2 u u0 u1' hu
        · by_cases y : u = S 14 1
          · subst y
            simp only [u_at, if_pos] at hu ⊢
            rcases hpar with ⟨_, h⟩ | ⟨h1, h2, h3⟩
            · exact h
            · rw [hu] at h1; exact absurd h1 (by decide)
          · have u1' := lt u u1 y
            rw [u_at, if_neg (ne u u0 u1')] at hu
            rw [u_at, if_neg (ne u u0 u1')]
            exact k3 u u0 u1' hu
        · by_cases y : u = S 14 1
          · subst y
            exact Or.inl (by rw [u_at, if_pos rfl])
          · have u1' := lt u u1 y
            rw [u_at, if_neg (ne u u0 u1')] at hu
            rw [u_at, if_neg (ne u u0 u1')]
            exact k4 u u0 u1' hu
        · by_cases y : u = S 14 1
          · subst y
            rw [u_at, if_pos rfl] at hu
            exact absurd hu (by decide)
          · have u1' := lt u u1 y
            rw [u_at, if_neg (ne u u0 u1')] at hu
            rw [u_at, if_neg (ne u u0 u1')]
            exact k5 u u0 u1' hu
        · have q := Q2.1
          rw [e1, n15, F1.1 1 rfl, F1.1 6 rfl, F1.1 8 rfl] at q
          rw [(F1.tr F3).1 1 rfl, (F1.tr F3).1 6 rfl, (F1.tr F3).1 8 rfl]
          exact q
        · rw [cle] at hi
          rw [u_at, if_neg (by omega)]
          exact (k7 i (by omega)).1
        · have q := Q2.2
          rw [e1] at q
          exact q i hi
        · by_cases y : u = S 14 1
          · subst y
            rw [u_at, if_pos rfl]
            grind
          · have u1' := lt u u1 y
            rw [u_at, if_neg (ne u u0 u1')]
            have := k8 u u0 u1'
            grind
      · refine ⟨?_, c2, c3, ?_, ?_, ?_, ?_, ?_, ?_, ?_, ?_⟩
        · rw [xO 14 (by decide), e8, g0, u_at, if_pos rfl, c1]; grind
        · rw [g0, u_at, if_pos rfl]; grind
        · rw [g0, u_at, if_pos rfl, (F1.tr F3).2.1]; grind
        · rw [(F1.tr F3).2.1]; exact c6
        · rw [(F1.tr F3).2.1]; exact c7
        · rw [yO 32 (by decide), t32, o32, g0]; simp [u_at, c8]
        · rw [(F2.tr F4).2.1 16 rfl, (F1.tr F3).2.1]; exact c9
        · rw [g0, u_at, if_neg (by decide)]; exact c10
        · rw [yO 32 (by decide), t32, o32]; simp [u_at, c11]
      · rw [g0, u_at, if_pos rfl]
      · rw [g15, g16, g17]
        simp [u_at, hi]
      · rw [g15, u_at, if_pos rfl]
      · rw [g16, u_at, if_pos rfl]
      · rw [g17, u_at, if_pos rfl]
