/-! marks: both outer loops side by side -/
def yX (S0 M0 S M : Nat → Nat → Int32) : Prop := (∀ c, c ≠ 19 → S c = S0 c) ∧ (∀ c, c ≠ 49 → M c = M0 c) ∧ M 49 = S 19
def yQ (S0 S : Nat → Nat → Int32) : Prop := (∀ (u : Int32) (b : Nat), 0 ≤ u → u < S0 14 1 → b < 32 → xb (S 19 (u).toNatClampNeg) b = true → b / 2 < (S0 1 5).toNatClampNeg ∧ b % 2 < (S0 8 (b / 2)).toNatClampNeg ∧ S0 6 (b / 2) = S0 15 (u).toNatClampNeg) ∧ (∀ k : Nat, (S0 14 1).toNatClampNeg ≤ k → S 19 k = 0)
theorem yG_of {S M : Nat → Nat → Int32} (hp : yP S M) {it mv i : Int32} (hit : it < 100) (b : Nat) : yG M it mv i b = (yH S it mv b && decide (S 6 (b / 2) = i)) := by
  obtain ⟨p1, p33, p34, p35, p5, p36, p37, p38, p39, p42, p44, p40, p43⟩ := hp
  unfold yG yH
  rw [p5, p38, p39, p36, ← Bool.decide_and]
  congr 1
  apply propext
  constructor
  · rintro ⟨h1, h2, h3, h4, h5⟩
    exact ⟨⟨h1, h2, h3, by rw [← p40 b (by rw [h3]; exact hit)]; exact h4⟩, h5⟩
  · rintro ⟨⟨h1, h2, h3, h4⟩, h5⟩
    exact ⟨h1, h2, h3, by rw [p40 b (by rw [h3]; exact hit)]; exact h4, h5⟩
theorem own_bits {S : Nat → Nat → Int32} (hd : yD S) (hi : yI S) {it mv parts : Int32} (hpt : ∀ b, b < 32 → xb parts b = yH S it mv b) (j b : Nat) (hb : b < 32) : xb (parts &&& S 5 (S 15 j).toNatClampNeg) b = (yH S it mv b && decide (S 6 (b / 2) = S 15 j)) := by
  obtain ⟨d1, d2, d3, d4, d6, d8, d12, d14a, d14b, d15, d16⟩ := hd
  obtain ⟨i5, i6, i7, i8, i10, i13, i14, i15⟩ := hi
  obtain ⟨i, hi, ei⟩ := i_of (d15 j).1
  have hi12 : i < 12 := by
    have h := (d15 j).2
    rw [ei] at h
    exact (nI_ltI hi (by decide)).1 (show nI i < nI 12 from h)
  rw [xb_and, hpt b hb, ei, nI_clamp hi, i14 i b hi12 hb]
  cases hy : yH S it mv b
  · rfl
  · have h1 := (of_decide_eq_true hy).1
    simp [h1]
theorem w_step {S0 M0 S M M' : Nat → Nat → Int32} (hp : yP S0 M0) (hl : yL S0 M0) (hd : yD S0) (hi : yI S0) {it mv parts u : Int32} (hit : it < 100) (hpt : ∀ b, b < 32 → xb parts b = yH S0 it mv b) (h0 : 0 ≤ u) (h1 : u < S0 14 1) (hx : yX S0 M0 S M) (hq : yQ S0 S)
    (hw : yW M M' (u).toNatClampNeg (yG M0 it mv (M0 45 (u).toNatClampNeg)) 32) : yX S0 M0 (xj_set S 19 (u).toNatClampNeg (S 19 (u).toNatClampNeg ||| (parts &&& S 5 (S 15 (u).toNatClampNeg).toNatClampNeg))) M' ∧ yQ S0 (xj_set S 19 (u).toNatClampNeg (S 19 (u).toNatClampNeg ||| (parts &&& S 5 (S 15 (u).toNatClampNeg).toNatClampNeg))) := by
  have g := yG_of (it := it) (mv := mv) (i := M0 45 (u).toNatClampNeg) hp hit
  have l45 : M0 45 = S0 15 := hl.2.1
  have o := own_bits hd hi hpt (u).toNatClampNeg
  have e5 : S 5 = S0 5 := hx.1 5 (by decide)
  have e15 : S 15 = S0 15 := hx.1 15 (by decide)
  rw [e5, e15]
  refine ⟨⟨fun c hc => ?_, fun c hc => ?_, ?_⟩, fun v b v0 v1 hb hv => ?_, fun j hj => ?_⟩
  · rw [s_set, if_neg hc]; exact hx.1 c hc
  · rw [hw.1 c hc]; exact hx.2.1 c hc
  · rw [s_set, if_pos rfl]
    funext j
    rw [u_at]
    by_cases y : j = (u).toNatClampNeg
    · rw [if_pos y]
      subst y
      apply xb_ext
      intro b hb
      rw [hw.2.2 b hb, xb_or, o b hb, g b, l45, hx.2.2]
      simp [hb]
    · rw [if_neg y, hw.2.1 j y, hx.2.2]
  · rw [s_set, if_pos rfl, u_at] at hv
    by_cases y : v = u
    · subst y
      rw [if_pos rfl, xb_or, o b hb, Bool.or_eq_true, Bool.and_eq_true] at hv
      rcases hv with hv | ⟨hv, hv2⟩
      · exact hq.1 v b v0 v1 hb hv
      · have z := of_decide_eq_true hv
        exact ⟨z.1, z.2.1, of_decide_eq_true hv2⟩
    · rw [if_neg (ix_ne v0 h0 y)] at hv
      exact hq.1 v b v0 v1 hb hv
  · rw [s_set, if_pos rfl, u_at, if_neg (by have := ix_lt h0 h1; omega)]
    exact hq.2 j hj
theorem w_sib {S0 M0 : Nat → Nat → Int32} (hp : yP S0 M0) (hl : yL S0 M0) (hd : yD S0) (hi : yI S0) {k mv parts : Int32} (hk0 : 0 ≤ k) (hk1 : k < S0 14 1) (hpt : ∀ b, b < 32 → xb parts b = yH S0 (S0 15 (k).toNatClampNeg) mv b) : ∀ (n N : Nat) (u : Int32) (S M : Nat → Nat → Int32), 0 ≤ u → u ≤ S0 14 1 → (40 : Int) < u.toInt + n → (67 : Int) * (40 - u.toInt) + 1 ≤ N → yX S0 M0 S M → yQ S0 S → ∃ S' M', fk_c_markSiblings n k parts u S = (0, S') ∧ dk_c_markSiblings n k parts u S ∧ (fk_m_mark N).1 k mv u M = (0, M') ∧ (dk_m_mark N).1 k mv u M ∧ yX S0 M0 S' M' ∧ yQ S0 S' := by
  have hp' := hp
  have hl' := hl
  have hd' := hd
  have he := yE_of hp hl hd
  obtain ⟨p1, p33, p34, p35, p5, p36, p37, p38, p39, p42, p44, p40, p43⟩ := hp
  obtain ⟨l17, l45, l46, l47, l48, l49, l50, l24, l51, l52⟩ := hl
  obtain ⟨d1, d2, d3, d4, d6, d8, d12, d14a, d14b, d15, d16⟩ := hd
  have vk : vp_in k 40 := v40 hk0 (by grind)
  intro n
  induction n with
  | zero =>
    intro N u S M h0 h1 h2
    have := Int32.le_iff_toInt_le.1 h1
    have := Int32.le_iff_toInt_le.1 d14b
    have e : (40 : Int32).toInt = 40 := by decide
    exfalso
    omega
  | succ n ih =>
    intro N u S M h0 h1 h2 h3 hx hq
    obtain ⟨N, rfl⟩ : ∃ N', N = N' + 1 := ⟨N - 1, by
      have := Int32.le_iff_toInt_le.1 h1
      have := Int32.le_iff_toInt_le.1 d14b
      have e : (40 : Int32).toInt = 40 := by decide
      omega⟩
    have x14 : S 14 = S0 14 := hx.1 14 (by decide)
    have x15 : S 15 = S0 15 := hx.1 15 (by decide)
    have x16 : S 16 = S0 16 := hx.1 16 (by decide)
    have x17 : S 17 = S0 17 := hx.1 17 (by decide)
    have m17 : M 32 17 = S0 14 1 := by rw [hx.2.1 32 (by decide)]; exact l17
    have m46 : M 46 = S0 16 := by rw [hx.2.1 46 (by decide)]; exact l46
    have m47 : M 47 = S0 17 := by rw [hx.2.1 47 (by decide)]; exact l47
    simp only [fk_c_markSiblings, dk_c_markSiblings, fk_m_mark, dk_m_mark]
    rw [x14, x16, m17, m46]
    by_cases q : S0 14 1 ≤ u
    · rw [if_pos q, if_pos q]
      exact ⟨S, M, rfl, ⟨fun _ => trivial, fun h => absurd q h⟩, rfl, ⟨fun _ => trivial, fun h => absurd q h⟩, hx, hq⟩
    · rw [if_neg q, if_neg q]
      have hu : u < S0 14 1 := by grind
      have vu : vp_in u 40 := v40 h0 (by grind)
      have e := i_t1 h0 hu
      have b1 := Int32.lt_iff_toInt_lt.1 hu
      have b2 := Int32.le_iff_toInt_le.1 d14b
      have e40 : (40 : Int32).toInt = 40 := by decide
      have skip := fun (N' : Nat) (hN : (67 : Int) * (40 - (u + 1).toInt) + 1 ≤ N') S M hx hq => ih N' (u + 1) S M (by grind) (by grind) (by rw [e]; omega) hN hx hq
      by_cases q1 : u = k
      · obtain ⟨S', M', g1, g2, g3, g4, g5, g6⟩ := skip N (by rw [e]; omega) S M hx hq
        rw [if_pos q1, if_pos q1]
        exact ⟨S', M', g1, ⟨fun h => absurd h q, fun _ => ⟨fun _ => g2, fun h => absurd q1 h⟩⟩, g3, ⟨fun h => absurd h q, fun _ => ⟨fun _ => g4, fun h => absurd q1 h⟩⟩, g5, g6⟩
      · rw [if_neg q1, if_neg q1]
        by_cases q2 : S0 16 (u).toNatClampNeg = S0 16 (k).toNatClampNeg
        · rw [if_neg (fun h => h q2), if_neg (fun h => h q2)]
          have df : d_c_mark u parts S := by
            have g1 := dd_isFinal (S := S) vu
            have g2 : vp_in (S 15 (u).toNatClampNeg) 12 := by rw [x15]; exact v12 (d15 _).1 (d15 _).2
            unfold d_c_mark
            repeat' (first | with_reducible exact trivial | with_reducible assumption | with_reducible apply And.intro | intro _)
          have fe : r_m_isFinal M u = r_l_isFinal S u := by
            unfold r_m_isFinal r_l_isFinal
            rw [m47, x17]
          have dm := dm_isFinal (S := M) vu
          by_cases q3 : r_l_isFinal S u = 0
          · have hw0 : yW M M (u).toNatClampNeg (yG M (M 45 (k).toNatClampNeg) mv (M 45 (u).toNatClampNeg)) 0 := ⟨fun _ _ => rfl, fun _ _ => rfl, fun b _ => by simp⟩
            have heM : yE M := by
              unfold yE
              rw [hx.2.1 32 (by decide), hx.2.1 36 (by decide), hx.2.1 38 (by decide), hx.2.1 42 (by decide), hx.2.1 45 (by decide), hx.2.1 46 (by decide)]
              exact he
            have n5 : (M 32 5) = M0 32 5 := by rw [hx.2.1 32 (by decide)]
            obtain ⟨ns, hns, es⟩ := i_of16 d3 d4
            have cns : (M 32 5).toNatClampNeg = ns := by rw [n5, p5, es]; exact nI_clamp (by omega)
            obtain ⟨n', M', w1, w2, w3, w4⟩ := (w_in heM (mv := mv) vk vu N).1 0 (N - 65) M (Nat.zero_le _) (by rw [cns]; omega) hw0
            have gg : yG M (M 45 (k).toNatClampNeg) mv (M 45 (u).toNatClampNeg) = yG M0 (S0 15 (k).toNatClampNeg) mv (M0 45 (u).toNatClampNeg) := by
              funext b
              unfold yG
              rw [hx.2.1 32 (by decide), hx.2.1 36 (by decide), hx.2.1 38 (by decide), hx.2.1 39 (by decide), hx.2.1 40 (by decide), hx.2.1 45 (by decide), l45]
            rw [gg] at w2
            have hit : S0 15 (k).toNatClampNeg < 100 := by have := (d15 (k).toNatClampNeg).2; grind
            obtain ⟨y1, y2⟩ := w_step hp' hl' hd' hi hit hpt h0 hu hx hq w2
            obtain ⟨S', M'', g1, g2, g3, g4, g5, g6⟩ := skip n' (by rw [e]; omega) _ M' y1 y2
            have fc : f_c_mark u parts S = (0, xj_set S 19 (u).toNatClampNeg (S 19 (u).toNatClampNeg ||| (parts &&& S 5 (S 15 (u).toNatClampNeg).toNatClampNeg))) := by
              unfold f_c_mark
              rw [if_neg (fun h => h q3)]
            rw [fc, fe, if_pos q3]
            refine ⟨S', M'', g1, ⟨fun h => absurd h q, fun _ => ⟨fun h => absurd h q1, fun _ => ⟨vu, vk, fun h => absurd q2 h, fun _ => ⟨df, g2⟩⟩⟩⟩, w3.trans g3, ⟨fun h => absurd h q, fun _ => ⟨fun h => absurd h q1, fun _ => ⟨vu, vk, fun h => absurd q2 h, fun _ => ⟨dm, fun _ => w4 g4, fun h => absurd q3 h⟩⟩⟩⟩, g5, g6⟩
          · obtain ⟨S', M', g1, g2, g3, g4, g5, g6⟩ := skip N (by rw [e]; omega) S M hx hq
            have fc : f_c_mark u parts S = (0, S) := by
              unfold f_c_mark
              rw [if_pos q3]
            rw [fc, fe, if_neg q3]
            refine ⟨S', M', g1, ⟨fun h => absurd h q, fun _ => ⟨fun h => absurd h q1, fun _ => ⟨vu, vk, fun h => absurd q2 h, fun _ => ⟨df, g2⟩⟩⟩⟩, g3, ⟨fun h => absurd h q, fun _ => ⟨fun h => absurd h q1, fun _ => ⟨vu, vk, fun h => absurd q2 h, fun _ => ⟨dm, fun h => absurd h q3, fun _ => g4⟩⟩⟩⟩, g5, g6⟩
        · obtain ⟨S', M', g1, g2, g3, g4, g5, g6⟩ := skip N (by rw [e]; omega) S M hx hq
          rw [if_pos q2, if_pos q2]
          exact ⟨S', M', g1, ⟨fun h => absurd h q, fun _ => ⟨fun h => absurd h q1, fun _ => ⟨vu, vk, fun _ => g2, fun h => absurd q2 h⟩⟩⟩, g3, ⟨fun h => absurd h q, fun _ => ⟨fun h => absurd h q1, fun _ => ⟨vu, vk, fun _ => g4, fun h => absurd q2 h⟩⟩⟩, g5, g6⟩
/-- markSiblings of the class and mark of the model -/
theorem w_mark {S M : Nat → Nat → Int32} (hp : yP S M) (hl : yL S M) (hd : yD S) (hi : yI S) (hq : yQ S S) {k mv : Int32} (hk0 : 0 ≤ k) (hk1 : k < S 14 1) : d_p_partsHearing S (S 15 (k).toNatClampNeg) mv ∧ ∃ S' M', f_c_markSiblings k (r_p_partsHearing S (S 15 (k).toNatClampNeg) mv) S = (0, S') ∧ d_c_markSiblings k (r_p_partsHearing S (S 15 (k).toNatClampNeg) mv) S ∧ f_m_mark k mv M = (0, M') ∧ d_m_mark k mv M ∧ yX S M S' M' ∧ yQ S S' := by
  have hh := w_hear hd (S 15 (k).toNatClampNeg) mv
  refine ⟨hh.2, ?_⟩
  have d14a := hd.2.2.2.2.2.2.2.1
  unfold f_c_markSiblings d_c_markSiblings f_m_mark d_m_mark
  exact w_sib hp hl hd hi hk0 hk1 hh.1 200 4000 0 S M (by decide) d14a (by decide) (by decide) ⟨fun _ _ => rfl, fun _ _ => rfl, hl.2.2.2.2.2.1⟩ hq
