/-! moves that go down: the class's recursion beside the model's stack -/
theorem t_le {a b : Int32} (h : a ≤ b) : a.toInt ≤ b.toInt := Int32.le_iff_toInt_le.1 h
theorem t_lt {a b : Int32} (h : a < b) : a.toInt < b.toInt := Int32.lt_iff_toInt_lt.1 h
theorem t_0 : (0 : Int32).toInt = 0 := by decide
theorem t_12 : (12 : Int32).toInt = 12 := by decide
theorem t_40 : (40 : Int32).toInt = 40 := by decide
theorem t_60 : (60 : Int32).toInt = 60 := by decide
theorem yFm_stk {M M' : Nat → Nat → Int32} (h : ∀ c, c ≠ 32 → c ≠ 61 → c ≠ 62 → c ≠ 63 → M' c = M c) (h32 : ∀ i, i ≠ 39 → M' 32 i = M 32 i) : yFm M M' := by
  refine ⟨fun c hc => ?_, fun i hi => h32 i (by rintro rfl; exact absurd hi (by decide)), ?_⟩
  · refine h c ?_ ?_ ?_ ?_ <;> (rintro rfl; exact absurd hc (by decide))
  · apply yBm_O <;> exact h _ (by decide) (by decide) (by decide) (by decide)
theorem yR_stk {S M M' : Nat → Nat → Int32} {T0 : Int32} (hR : yR S M T0) (h : ∀ c, c ≠ 32 → c ≠ 61 → c ≠ 62 → c ≠ 63 → M' c = M c) (h32 : ∀ i, i ≠ 39 → M' 32 i = M 32 i) : yR S M' T0 := by
  obtain ⟨hp, hl, hd, hi, hk, hc⟩ := hR
  obtain ⟨l17, l45, l46, l47, l48, l49, l50, l24, l51, l52⟩ := hl
  obtain ⟨c1, c2, c3, c4, c5, c6, c7, c8, c9, c10, c11⟩ := hc
  refine ⟨yP_tr hp (yF.rf S) (yFm_stk h h32), ⟨?_, ?_, ?_, ?_, ?_, ?_, ?_, ?_, ?_, ?_⟩, hd, hi, hk, ⟨c1, c2, c3, c4, c5, c6, c7, ?_, ?_, c10, ?_⟩⟩
  · rw [h32 17 (by decide)]; exact l17
  · rw [h 45 (by decide) (by decide) (by decide) (by decide)]; exact l45
  · rw [h 46 (by decide) (by decide) (by decide) (by decide)]; exact l46
  · rw [h 47 (by decide) (by decide) (by decide) (by decide)]; exact l47
  · rw [h 48 (by decide) (by decide) (by decide) (by decide)]; exact l48
  · rw [h 49 (by decide) (by decide) (by decide) (by decide)]; exact l49
  · rw [h 50 (by decide) (by decide) (by decide) (by decide)]; exact l50
  · rw [h32 24 (by decide)]; exact l24
  · rw [h 51 (by decide) (by decide) (by decide) (by decide)]; exact l51
  · rw [h 52 (by decide) (by decide) (by decide) (by decide)]; exact l52
  · rw [h32 37 (by decide)]; exact c8
  · rw [h32 16 (by decide)]; exact c9
  · rw [h32 38 (by decide)]; exact c11
theorem cLp_cut {k m dep cnt : Int32} (hm : m = 4 ∨ m = 5 ∨ m = 6 ∨ m = 9) (hc : cnt ≤ 40) : ∀ (n : Nat) (u : Int32) (S : Nat → Nat → Int32), S 0 4 ≠ 0 → yD S → 0 ≤ u → cnt.toInt - u.toInt + 2 ≤ n → 2 ≤ n → ∃ S', cLp n k m dep cnt u S S' ∧ S' 0 4 ≠ 0 ∧ yD S' ∧ yF S S' := by
  intro n
  induction n with
  | zero => intro u S _ _ _ _ h; omega
  | succ n ih =>
    intro u S hs hd h0 hn h2
    by_cases q : cnt ≤ u
    · exact ⟨S, cLp_end q, hs, hd, yF.rf S⟩
    · have hu : u < cnt := by grind
      have e := i_t1 h0 hu
      have b := t_lt hu
      have vu : vp_in u 40 := v40 h0 (by grind)
      by_cases q1 : S 16 (u).toNatClampNeg = k
      · by_cases f : yfol S u m
        · obtain ⟨n, rfl⟩ : ∃ n', n = n' + 1 := ⟨n - 1, by omega⟩
          obtain ⟨z1, z2, z3⟩ := yZ_set hd
          obtain ⟨S', g1, g2, g3, g4⟩ := ih (u + 1) _ z1 z2 (by grind) (by rw [e]; omega) (by omega)
          exact ⟨S', cLp_go hm q vu q1 f (cMk_cut hs) g1, g2, g3, z3.tr g4⟩
        · obtain ⟨S', g1, g2, g3, g4⟩ := ih (u + 1) S hs hd (by grind) (by rw [e]; omega) (by omega)
          exact ⟨S', cLp_nf q vu q1 f g1, g2, g3, g4⟩
      · obtain ⟨S', g1, g2, g3, g4⟩ := ih (u + 1) S hs hd (by grind) (by rw [e]; omega) (by omega)
        exact ⟨S', cLp_skip q vu q1 g1, g2, g3, g4⟩
def yStk (t : Nat) (M M' : Nat → Nat → Int32) : Prop := M' 32 39 = M 32 39 ∧ ∀ i, i < t → M' 61 i = M 61 i ∧ M' 62 i = M 62 i ∧ M' 63 i = M 63 i
def zA (n : Nat) : Prop := ∀ (S M : Nat → Nat → Int32) (T0 k mv dep : Int32), yR S M T0 → 0 ≤ k → k < S 14 1 → (mv = 5 ∨ mv = 6 ∨ mv = 9) → (mv = 5 → S 17 (k).toNatClampNeg = 2) → (mv = 6 → S 17 (k).toNatClampNeg = 3) → dep ≤ S 15 (k).toNatClampNeg → 45 * (12 - (S 15 (k).toNatClampNeg).toInt) + 4 ≤ n → 0 ≤ M 32 39 → M 32 39 ≤ S 15 (k).toNatClampNeg →
  ∃ (S' M1 M' : Nat → Nat → Int32) (j : Nat), cMk n k mv dep S S' ∧ yF S S' ∧ mEn k mv M M1 ∧ mSt j M1 M' ∧ yFm M M' ∧
    ((yR S' M' T0 ∧ S' 14 1 = S 14 1 ∧ S' 15 = S 15 ∧ S' 16 = S 16 ∧ yStk (M 32 39).toNatClampNeg M M' ∧ (j : Int) + 2 ≤ 48 * ((S' 0 3).toInt - (S 0 3).toInt) ∧ (yN S → yN S')) ∨
     (S' 0 4 ≠ 0 ∧ yD S' ∧ M' 32 38 ≠ 0 ∧ (j : Int) ≤ 48 * (61 - (S 0 3).toInt)))
def zB (n : Nat) : Prop := ∀ (S M : Nat → Nat → Int32) (T0 k m dep u : Int32), yR S M T0 → 0 ≤ k → k < S 14 1 → (m = 4 ∨ m = 5 ∨ m = 6 ∨ m = 9) → dep ≤ S 15 (k).toNatClampNeg + 1 → 0 ≤ u → u ≤ S 14 1 → 45 * (12 - (S 15 (k).toNatClampNeg).toInt) + 1 - u.toInt ≤ n → 1 ≤ M 32 39 → M 32 39 ≤ S 15 (k).toNatClampNeg + 1 → M 61 (M 32 39 - 1).toNatClampNeg = k → M 62 (M 32 39 - 1).toNatClampNeg = m →
  ∃ S' : Nat → Nat → Int32, cLp n k m dep (S 14 1) u S S' ∧ yF S S' ∧
    ((∃ (M2 : Nat → Nat → Int32) (j : Nat), (∀ i M', mSc i k m (S 14 1) M2 M' → mSc (i + j) k m u M M') ∧ yFm M M2 ∧ yR S' M2 T0 ∧ S' 14 1 = S 14 1 ∧ S' 15 = S 15 ∧ S' 16 = S 16 ∧ M2 32 39 = M 32 39 ∧ (∀ i, i + 1 < (M 32 39).toNatClampNeg → M2 61 i = M 61 i ∧ M2 62 i = M 62 i ∧ M2 63 i = M 63 i) ∧ (j : Int) ≤ 48 * ((S' 0 3).toInt - (S 0 3).toInt) + ((S 14 1).toInt - u.toInt) ∧ (yN S → yN S')) ∨
     (S' 0 4 ≠ 0 ∧ yD S' ∧ ∃ (M' : Nat → Nat → Int32) (j : Nat), mSc j k m u M M' ∧ yFm M M' ∧ M' 32 38 ≠ 0 ∧ (j : Int) ≤ 48 * (61 - (S 0 3).toInt) + ((S 14 1).toInt - u.toInt)))
theorem z_B {n : Nat} (hA : zA n) (hB : zB n) : zB (n + 1) := by
  intro S M T0 k m dep u hR h0 h1 hm hdep u0 u1 hn t0 t1 s61 s62
  have hR' := hR
  obtain ⟨hp, hl, hd, hi, hk, hc⟩ := hR
  have hl' := hl
  have hd' := hd
  obtain ⟨l17, l45, l46, l47, l48, l49, l50, l24, l51, l52⟩ := hl
  obtain ⟨d1, d2, d3, d4, d6, d8, d12, d14a, d14b, d15, d16⟩ := hd
  obtain ⟨k1, k2, k3, k4, k5, k6, k7, k8⟩ := hk
  obtain ⟨c1, c2, c3, c4, c5, c6, c7, c8, c9, c10, c11⟩ := hc
  have ki := d15 (k).toNatClampNeg
  have ki1 := t_le ki.1
  have ki2 := t_lt ki.2
  have q0 := t_0
  have q12 := t_12
  have q40 := t_40
  have q60 := t_60
  have cn := t_le d14b
  have mb := t_le c5
  have mb2 := t_le c7
  by_cases q : S 14 1 ≤ u
  · have e : u = S 14 1 := by grind
    subst e
    refine ⟨S, cLp_end q, yF.rf S, Or.inl ⟨M, 0, fun i M' h => h, yFm.rf M, hR', rfl, rfl, rfl, rfl, fun i _ => ⟨rfl, rfl, rfl⟩, by omega, fun h => h⟩⟩
  · have hu : u < S 14 1 := by grind
    have e := i_t1 u0 hu
    have b := t_lt hu
    have vu : vp_in u 40 := v40 u0 (by grind)
    have hMq : ¬ M 32 17 ≤ u := by rw [l17]; exact q
    have hnx : 45 * (12 - (S 15 (k).toNatClampNeg).toInt) + 1 - (u + 1).toInt ≤ n := by rw [e]; omega
    by_cases q1 : S 16 (u).toNatClampNeg = k
    · have fe := q_follows (a := u) (b := m) hl'
      by_cases f : yfol S u m
      · have fm : r_m_follows M u m ≠ 0 := by
          rw [fe]
          unfold yfol at f
          by_cases m5 : m = 5
          · rw [if_pos m5] at f
            rw [if_pos m5, if_pos f]; decide
          · rw [if_neg m5] at f
            rw [if_neg m5]
            by_cases m6 : m = 6
            · rw [if_pos m6] at f
              rw [if_pos m6, if_pos f]; decide
            · rw [if_neg m6] at f
              rw [if_neg m6, if_pos f]; decide
        have i2 := k2 u u0 hu (by rw [q1]; exact h0)
        rw [q1] at i2
        have i2' := t_lt i2
        have vt : vp_in (M 32 39 - 1) 16 := v16 (by grind) (by grind)
        obtain ⟨Mx, hMx⟩ : ∃ Mx, Mx = xj_set M 63 (M 32 39 - 1).toNatClampNeg (u + 1) := ⟨_, rfl⟩
        have xO : ∀ c, c ≠ 63 → Mx c = M c := fun c h => by rw [hMx, s_set, if_neg h]
        have x63 : Mx 63 = upd (M 63) (M 32 39 - 1).toNatClampNeg (u + 1) := by rw [hMx, s_set, if_pos rfl]
        have Rx : yR S Mx T0 := yR_stk hR' (fun c _ _ _ h => xO c h) (fun i _ => by rw [xO 32 (by decide)])
        have Fx : yFm M Mx := yFm_stk (fun c _ _ _ h => xO c h) (fun i _ => by rw [xO 32 (by decide)])
        have cmv : ycm m = 5 ∨ ycm m = 6 ∨ ycm m = 9 := by
          unfold ycm
          rcases hm with rfl | rfl | rfl | rfl <;> decide
        have c5' : ycm m = 5 → S 17 (u).toNatClampNeg = 2 := by
          intro h
          have : m = 5 := by
            unfold ycm at h
            rcases hm with rfl | rfl | rfl | rfl
            · exact absurd h (by decide)
            · rfl
            · exact absurd h (by decide)
            · exact absurd h (by decide)
          unfold yfol at f
          rw [if_pos this] at f
          exact f
        have c6' : ycm m = 6 → S 17 (u).toNatClampNeg = 3 := by
          intro h
          have : m = 6 := by
            unfold ycm at h
            rcases hm with rfl | rfl | rfl | rfl
            · exact absurd h (by decide)
            · exact absurd h (by decide)
            · rfl
            · exact absurd h (by decide)
          unfold yfol at f
          rw [if_neg (by rw [this]; decide), if_pos this] at f
          exact f
        obtain ⟨S1, Ma, Mb, ja, a1, a2, a3, a4, a5, a6⟩ := hA S Mx T0 u (ycm m) dep Rx u0 hu cmv c5' c6' (by grind) (by omega) (by rw [xO 32 (by decide)]; grind) (by rw [xO 32 (by decide)]; grind)
        rw [hMx] at a3
        rcases a6 with ⟨aR, a14, a15, a16, aS, aj, aN⟩ | ⟨aC, aD, aM, aj⟩
        · have top : Mb 32 39 = M 32 39 := by rw [aS.1, xO 32 (by decide)]
          have tl : (M 32 39 - 1).toNatClampNeg < (Mx 32 39).toNatClampNeg := by rw [xO 32 (by decide)]; exact ix_lt (by grind) (by grind)
          obtain ⟨r61, r62, r63⟩ := aS.2 _ tl
          rw [xO 61 (by decide), s61] at r61
          rw [xO 62 (by decide), s62] at r62
          rw [x63, u_at, if_pos rfl] at r63
          have b38 : Mb 32 38 = 0 := aR.2.2.2.2.2.2.2.2.2.2.2.2.2.2.2
          have bb : (Mb 32 39 - 1) = M 32 39 - 1 := by rw [top]
          obtain ⟨S', g1, g2, g3⟩ := hB S1 Mb T0 k m dep (u + 1) aR h0 (by rw [a14]; exact h1) hm (by rw [a15]; exact hdep) (by grind) (by rw [a14]; grind) (by rw [a15]; exact hnx) (by rw [top]; exact t0) (by rw [top, a15]; exact t1) (by rw [bb]; exact r61) (by rw [bb]; exact r62)
          rw [a14] at g1 g3
          have hd2 : ∀ i M', mSc i k m (u + 1) Mb M' → mSt (i + 1) Mb M' := by
            intro i M' h
            refine mSt_hd (by rw [top]; grind) b38 (by rw [bb]; exact vt) ?_
            rw [bb, r61, r62, r63]
            exact h
          refine ⟨S', cLp_go hm q vu q1 f a1 g1, a2.tr g2, ?_⟩
          rcases g3 with ⟨M2, jb, w1, w2, w3, w4, w5, w6, w7, w8, w9, w10⟩ | ⟨w1, w2, M', jb, w3, w4, w5, w6⟩
          · refine Or.inl ⟨M2, jb + 1 + ja + 1, fun i M' h => ?_, (Fx.tr a5).tr w2, w3, w4, w5.trans a15, w6.trans a16, w7.trans top, fun i hi => ?_, ?_, fun h => w10 (aN h)⟩
            · have z := mSc_en (p := k) hMq vu (by rw [l46]; exact q1) fm vt a3 (mSt_tr a4 (hd2 _ _ (w1 i M' h)))
              have ez : i + (jb + 1 + ja + 1) = i + jb + 1 + ja + 1 := by omega
              rw [ez]
              exact z
            · rw [top] at w8
              obtain ⟨v1, v2, v3⟩ := w8 i hi
              have ti : i < (Mx 32 39).toNatClampNeg := by rw [xO 32 (by decide)]; omega
              obtain ⟨y1, y2, y3⟩ := aS.2 i ti
              rw [v1, v2, v3, y1, y2, y3, xO 61 (by decide), xO 62 (by decide), x63, u_at, if_neg]
              · exact ⟨rfl, rfl, rfl⟩
              · have := ix_1 (a := M 32 39 - 1) (m := M 32 39) (by grind) (by grind)
                have ee : M 32 39 - 1 + 1 = M 32 39 := by grind
                rw [ee] at this
                omega
            · rw [e] at w9
              omega
          · refine Or.inr ⟨w1, w2, M', jb + 1 + ja + 1, mSc_en hMq vu (by rw [l46]; exact q1) fm vt a3 (mSt_tr a4 (hd2 _ _ w3)), (Fx.tr a5).tr w4, w5, ?_⟩
            rw [e] at w6
            omega
        · obtain ⟨S', g1, g2, g3, g4⟩ := cLp_cut (k := k) (dep := dep) hm d14b n (u + 1) S1 aC aD (by grind) (by rw [e]; omega) (by omega)
          exact ⟨S', cLp_go hm q vu q1 f a1 g1, a2.tr g4, Or.inr ⟨g2, g3, Mb, ja + 1, mSc_en hMq vu (by rw [l46]; exact q1) fm vt a3 a4, Fx.tr a5, aM, by omega⟩⟩
      · have fm : ¬ r_m_follows M u m ≠ 0 := by
          rw [fe]
          unfold yfol at f
          by_cases m5 : m = 5
          · rw [if_pos m5] at f
            rw [if_pos m5, if_neg f]; decide
          · rw [if_neg m5] at f
            rw [if_neg m5]
            by_cases m6 : m = 6
            · rw [if_pos m6] at f
              rw [if_pos m6, if_neg f]; decide
            · rw [if_neg m6] at f
              rw [if_neg m6, if_neg f]; decide
        obtain ⟨S', g1, g2, g3⟩ := hB S M T0 k m dep (u + 1) hR' h0 h1 hm hdep (by grind) (by grind) hnx t0 t1 s61 s62
        refine ⟨S', cLp_nf q vu q1 f g1, g2, ?_⟩
        rcases g3 with ⟨M2, jb, w1, w2, w3, w4, w5, w6, w7, w8, w9, w10⟩ | ⟨w1, w2, M', jb, w3, w4, w5, w6⟩
        · refine Or.inl ⟨M2, jb + 1, fun i M' h => mSc_nf hMq vu (by rw [l46]; exact q1) fm (w1 i M' h), w2, w3, w4, w5, w6, w7, w8, ?_, w10⟩
          rw [e] at w9
          omega
        · refine Or.inr ⟨w1, w2, M', jb + 1, mSc_nf hMq vu (by rw [l46]; exact q1) fm w3, w4, w5, ?_⟩
          rw [e] at w6
          omega
    · obtain ⟨S', g1, g2, g3⟩ := hB S M T0 k m dep (u + 1) hR' h0 h1 hm hdep (by grind) (by grind) hnx t0 t1 s61 s62
      refine ⟨S', cLp_skip q vu q1 g1, g2, ?_⟩
      rcases g3 with ⟨M2, jb, w1, w2, w3, w4, w5, w6, w7, w8, w9, w10⟩ | ⟨w1, w2, M', jb, w3, w4, w5, w6⟩
      · refine Or.inl ⟨M2, jb + 1, fun i M' h => mSc_skip hMq vu (by rw [l46]; exact q1) (w1 i M' h), w2, w3, w4, w5, w6, w7, w8, ?_, w10⟩
        rw [e] at w9
        omega
      · refine Or.inr ⟨w1, w2, M', jb + 1, mSc_skip hMq vu (by rw [l46]; exact q1) w3, w4, w5, ?_⟩
        rw [e] at w6
        omega
