/-! a move of the first rank, with all that follows -/
def yN1 (k : Int32) (S : Nat → Nat → Int32) : Prop := ∀ u : Int32, 0 ≤ u → u < S 14 1 → u ≠ k → S 16 (u).toNatClampNeg = -1 → S 17 (u).toNatClampNeg ≠ 0
theorem yN_upd1 {S S' : Nat → Nat → Int32} {k mv : Int32} (h0 : 0 ≤ k) (m1 : 1 ≤ mv) (m9 : mv ≤ 9) (e1 : S' 14 1 = S 14 1) (e16 : S' 16 = S 16) (e17 : S' 17 = upd (S 17) (k).toNatClampNeg (xst (mv).toNatClampNeg)) (h : yN1 k S) : yN S' := by
  obtain ⟨nm, hnm, enm, cnm⟩ := i_nat10 (by grind : 0 ≤ mv) m9
  intro u u0 u1 hu
  rw [e1] at u1
  rw [e16] at hu
  rw [e17, u_at]
  by_cases y : u = k
  · rw [if_pos (by rw [y]), cnm]
    refine xst_0 nm hnm ?_
    rcases Nat.eq_zero_or_pos nm with z | z
    · subst z
      rw [enm] at m1
      exact absurd m1 (by decide)
    · exact z
  · rw [if_neg (ix_ne u0 h0 y)]
    exact h u u0 u1 y hu
theorem yN_new {S S' : Nat → Nat → Int32} (d14a : 0 ≤ S 14 1) (e1 : S' 14 1 = S 14 1 + 1) (hO : ∀ j, j ≠ (S 14 1).toNatClampNeg → S' 15 j = S 15 j ∧ S' 16 j = S 16 j ∧ S' 17 j = S 17 j) (hp : S' 16 (S 14 1).toNatClampNeg ≠ -1) (h : yN S) : yN S' := by
  intro u u0 u1 hu
  rw [e1] at u1
  by_cases y : u = S 14 1
  · rw [y] at hu
    exact absurd hu hp
  · have ne := ix_ne u0 d14a y
    obtain ⟨_, o2, o3⟩ := hO _ ne
    rw [o2] at hu
    rw [o3]
    exact h u u0 (by grind) hu
theorem z_again {S M : Nat → Nat → Int32} {T0 k mv dep : Int32} (n : Nat) (hR : yR S M T0) (h0 : 0 ≤ k) (h1 : k < S 14 1) (h34 : mv = 3 ∨ mv = 4) (hdep : dep ≤ 12) :
    ∃ S' M', cRp (n + 4) k dep S S' ∧ yF S S' ∧ mAg k mv M M' ∧ yFm M M' ∧ M' 32 39 = M 32 39 ∧ ((yR S' M' T0 ∧ (S 0 3).toInt ≤ (S' 0 3).toInt ∧ (yN S → yN S')) ∨ (S' 0 4 ≠ 0 ∧ yD S' ∧ M' 32 38 ≠ 0)) := by
  have hR' := hR
  obtain ⟨hp, hl, hd, hi, hk, hc⟩ := hR
  have hd' := hd
  have E := yE_of hp hl hd
  have hf := q_hasFlag (a := k) (b := 1) hp hl
  have he := q_hasEntry (a := k) hp hl hd
  have hpa := q_parentActive (a := k) hl hd
  have l45 := hl.2.1
  have l46 := hl.2.2.1
  obtain ⟨d1, d2, d3, d4, d6, d8, d12, d14a, d14b, d15, d16⟩ := hd
  obtain ⟨i5, i6, i7, i8, i10, i13, i14, i15⟩ := hi
  obtain ⟨k1, k2, k3, k4, k5, k6, k7, k8⟩ := hk
  obtain ⟨c1, c2, c3, c4, c5, c6, c7, c8, c9, c10, c11⟩ := hc
  have vk : vp_in k 40 := v40 h0 (by grind)
  by_cases q1 : r_p_hasFlag S (S 15 (k).toNatClampNeg) 1 = 0
  · exact ⟨S, M, cRp_no vk hd' (Or.inl q1), yF.rf S, mAg_stop E vk h34 (Or.inl (by rw [hf]; exact q1)), yFm.rf M, rfl, Or.inl ⟨hR', Int.le_refl _, fun h => h⟩⟩
  · by_cases q2 : r_p_hasEntry S (S 15 (k).toNatClampNeg) ≠ 0
    · exact ⟨S, M, cRp_no vk hd' (Or.inr (Or.inl q2)), yF.rf S, mAg_stop E vk h34 (Or.inr (Or.inl (by rw [he]; exact q2))), yFm.rf M, rfl, Or.inl ⟨hR', Int.le_refl _, fun h => h⟩⟩
    · have it0 : S 15 (k).toNatClampNeg ≠ 0 := by
        intro h
        apply q1
        unfold r_p_hasFlag
        rw [h]
        have z : ((0 : Int32)).toNatClampNeg = 0 := by decide
        rw [z, i7, if_pos (by decide)]
      have pn : S 16 (k).toNatClampNeg ≠ -1 := fun h => it0 (k3 k h0 h1 h)
      rw [if_neg pn] at hpa
      by_cases q3 : r_c_parentLets S k = 0
      · exact ⟨S, M, cRp_no vk hd' (Or.inr (Or.inr q3)), yF.rf S, mAg_stop E vk h34 (Or.inr (Or.inr (by rw [hpa]; exact q3))), yFm.rf M, rfl, Or.inl ⟨hR', Int.le_refl _, fun h => h⟩⟩
      · have p0 : 0 ≤ S 16 (k).toNatClampNeg := by have := d16 (k).toNatClampNeg; grind
        obtain ⟨S', M', g1, g2, g3, g4, g5, g6, g7, g8, g9⟩ := z_create (it := S 15 (k).toNatClampNeg) (par := S 16 (k).toNatClampNeg) (dep := dep) n hR' (d15 _).1 (d15 _).2 (Or.inr ⟨p0, k8 k h0 h1, k2 k h0 h1 p0⟩) hdep
        rw [← l45, ← l46] at g3
        refine ⟨S', M', cRp_go vk hd' q1 q2 q3 g1, g2, mAg_go E vk h34 (by rw [hf]; exact q1) (by rw [he]; exact q2) (by rw [hpa]; exact q3) g3, g4, g8, ?_⟩
        rcases g9 with ⟨r1, r2, r3, r4, r5, r6, r7⟩ | r
        · refine Or.inl ⟨r1, ?_, fun h => yN_new d14a r3 r4 (by rw [r6]; exact pn) h⟩
          have b1 := r1.2.2.2.2.2
          obtain ⟨c1, c2, c3, c4, c5, c6, c7, c8, c9, c10, c11⟩ := b1
          rw [r2]
          have z : S 0 3 < 61 := by grind
          have := i_t1 (by grind : 0 ≤ S 0 3) z
          omega
        · exact Or.inr ⟨r.1, r.2.1, r.2.2.1⟩
theorem cCl_cut {k dep : Int32} (vk : vp_in k 40) : ∀ (n : Nat) (u : Int32) (S : Nat → Nat → Int32), S 0 4 ≠ 0 → yD S → 0 ≤ u → 12 - u.toInt + 2 ≤ n → 2 ≤ n → ∃ S', cCl n k dep u S S' ∧ S' 0 4 ≠ 0 ∧ yD S' ∧ yF S S' := by
  intro n
  induction n with
  | zero => intro u S _ _ _ _ h; omega
  | succ n ih =>
    intro u S hs hd h0 hn h2
    have d2 := hd.2.1
    by_cases q : S 1 0 ≤ u
    · exact ⟨S, cCl_end q, hs, hd, yF.rf S⟩
    · have hu : u < 12 := by grind
      have e := i_t1 h0 hu
      have b := t_lt hu
      have := t_12
      have vu : vp_in u 12 := v12 h0 hu
      by_cases q1 : S 3 (u).toNatClampNeg = S 15 (k).toNatClampNeg
      · obtain ⟨n, rfl⟩ : ∃ n', n = n' + 1 := ⟨n - 1, by omega⟩
        obtain ⟨z1, z2, z3⟩ := yZ_set hd
        obtain ⟨S', g1, g2, g3, g4⟩ := ih (u + 1) _ z1 z2 (by grind) (by rw [e]; omega) (by omega)
        exact ⟨S', cCl_go q vu vk q1 (cCr_cut hs) g1, g2, g3, z3.tr g4⟩
      · obtain ⟨S', g1, g2, g3, g4⟩ := ih (u + 1) S hs hd (by grind) (by rw [e]; omega) (by omega)
        exact ⟨S', cCl_skip q vu vk q1 g1, g2, g3, g4⟩
theorem mEl_cut {k : Int32} {M : Nat → Nat → Int32} (vk : vp_in k 40) (hc : M 32 38 ≠ 0) (h12 : M 32 1 ≤ 12) : ∀ (n : Nat) (u : Int32), 0 ≤ u → 12 - u.toInt + 1 ≤ n → 1 ≤ n → mEl n k u M M := by
  intro n
  induction n with
  | zero => intro u _ _ h; omega
  | succ n ih =>
    intro u h0 hn h1
    by_cases q : M 32 1 ≤ u
    · exact mEl_end q
    · have hu : u < 12 := by grind
      have e := i_t1 h0 hu
      have b := t_lt hu
      have := t_12
      have vu : vp_in u 12 := v12 h0 hu
      have g := ih (u + 1) (by grind) (by rw [e]; omega) (by omega)
      by_cases q1 : M 34 (u).toNatClampNeg = M 45 (k).toNatClampNeg
      · exact mEl_go q vu vk q1 (mCr_cut hc) g
      · exact mEl_skip q vu vk q1 g
theorem z_cl {T0 k dep : Int32} (hdep : dep ≤ 12) : ∀ (n N : Nat) (u : Int32) (S M : Nat → Nat → Int32), yR S M T0 → 0 ≤ k → k < S 14 1 → 1 ≤ u → 12 - u.toInt + 4 ≤ n → 4 ≤ n → 12 - u.toInt + 1 ≤ N → 1 ≤ N → yN S →
    ∃ S' M', cCl n k dep u S S' ∧ yF S S' ∧ mEl N k u M M' ∧ yFm M M' ∧ M' 32 39 = M 32 39 ∧ ((yR S' M' T0 ∧ (S 0 3).toInt ≤ (S' 0 3).toInt ∧ yN S') ∨ (S' 0 4 ≠ 0 ∧ yD S' ∧ M' 32 38 ≠ 0)) := by
  intro n
  induction n with
  | zero => intro N u S M _ _ _ _ _ h; omega
  | succ n ih =>
    intro N u S M hR h0 h1 u1 hn hn4 hN hN1 hy
    have hR' := hR
    obtain ⟨hp, hl, hd, hi, hk, hc⟩ := hR
    have hp' := hp
    have l45 := hl.2.1
    have hd' := hd
    obtain ⟨p1, p33, p34, p35, p5, p36, p37, p38, p39, p42, p44, p40, p43⟩ := hp
    obtain ⟨d1, d2, d3, d4, d6, d8, d12, d14a, d14b, d15, d16⟩ := hd
    obtain ⟨i5, i6, i7, i8, i10, i13, i14, i15⟩ := hi
    obtain ⟨c1, c2, c3, c4, c5, c6, c7, c8, c9, c10, c11⟩ := hc
    obtain ⟨N, rfl⟩ : ∃ N', N = N' + 1 := ⟨N - 1, by omega⟩
    have vk : vp_in k 40 := v40 h0 (by grind)
    by_cases q : S 1 0 ≤ u
    · exact ⟨S, M, cCl_end q, yF.rf S, mEl_end (by rw [p1]; exact q), yFm.rf M, rfl, Or.inl ⟨hR', Int.le_refl _, hy⟩⟩
    · have u0 : 0 ≤ u := by grind
      have hu : u < 12 := by grind
      have e := i_t1 u0 hu
      have b := t_lt hu
      have := t_12
      have vu : vp_in u 12 := v12 u0 hu
      by_cases q1 : S 3 (u).toNatClampNeg = S 15 (k).toNatClampNeg
      · have lt : S 15 (k).toNatClampNeg < u := by rw [← q1]; exact i8 u (by grind) hu
        obtain ⟨n, rfl⟩ : ∃ n', n = n' + 3 := ⟨n - 3, by omega⟩
        obtain ⟨S1, M1, g1, g2, g3, g4, g5, g6, g7, g8, g9⟩ := z_create (it := u) (par := k) (dep := dep) n hR' u0 hu (Or.inr ⟨h0, h1, lt⟩) hdep
        rcases g9 with ⟨r1, r2, r3, r4, r5, r6, r7⟩ | ⟨r1, r2, r3, _⟩
        · have y1 : yN S1 := yN_new d14a r3 r4 (by rw [r6]; grind) hy
          have b1 := r1.2.2.2.2.2
          obtain ⟨c1, c2, c3, c4, c5, c6, c7, c8, c9, c10, c11⟩ := b1
          have e3 : (S1 0 3).toInt = (S 0 3).toInt + 1 := by
            have z : S 0 3 < 61 := by grind
            rw [r2]
            exact i_t1 (by grind) z
          obtain ⟨S', M', w1, w2, w3, w4, w5, w6⟩ := ih N (u + 1) S1 M1 r1 h0 (by rw [r3]; grind) (by grind) (by rw [e]; omega) (by omega) (by rw [e]; omega) (by omega) y1
          refine ⟨S', M', cCl_go q vu vk q1 g1 w1, g2.tr w2, mEl_go (by rw [p1]; exact q) vu vk (by rw [p34, l45]; exact q1) g3 w3, g4.tr w4, w5.trans g8, ?_⟩
          rcases w6 with ⟨v1, v2, v3⟩ | v
          · exact Or.inl ⟨v1, by omega, v3⟩
          · exact Or.inr v
        · obtain ⟨S', w1, w2, w3, w4⟩ := cCl_cut (dep := dep) vk (n + 3) (u + 1) S1 r1 r2 (by grind) (by rw [e]; omega) (by omega)
          have w5 := mEl_cut vk r3 (by rw [g4.2.1 1 rfl, p1]; exact d2) N (u + 1) (by grind) (by rw [e]; omega) (by omega)
          exact ⟨S', M1, cCl_go q vu vk q1 g1 w1, g2.tr w4, mEl_go (by rw [p1]; exact q) vu vk (by rw [p34, l45]; exact q1) g3 w5, g4, g8, Or.inr ⟨w2, w3, r3⟩⟩
      · by_cases q12 : u = 11
        · obtain ⟨n, rfl⟩ : ∃ n', n = n' + 1 := ⟨n - 1, by omega⟩
          obtain ⟨N, rfl⟩ : ∃ N', N = N' + 1 := ⟨N - 1, by
            have : (11 : Int32).toInt = 11 := by decide
            rw [q12] at hN
            omega⟩
          have q2 : S 1 0 ≤ u + 1 := by grind
          exact ⟨S, M, cCl_skip q vu vk q1 (cCl_end q2), yF.rf S, mEl_skip (by rw [p1]; exact q) vu vk (by rw [p34, l45]; exact q1) (mEl_end (by rw [p1]; exact q2)), yFm.rf M, rfl, Or.inl ⟨hR', Int.le_refl _, hy⟩⟩
        · have u11 : u < 11 := by grind
          have b11 := t_lt u11
          have : (11 : Int32).toInt = 11 := by decide
          obtain ⟨S', M', w1, w2, w3, w4, w5, w6⟩ := ih N (u + 1) S M hR' h0 h1 (by grind) (by rw [e]; omega) (by omega) (by rw [e]; omega) (by omega) hy
          exact ⟨S', M', cCl_skip q vu vk q1 w1, w2, mEl_skip (by rw [p1]; exact q) vu vk (by rw [p34, l45]; exact q1) w3, w4, w5, w6⟩
