/-! marks of a variable: markAll of the class beside markVariable of the model -/
def yGv (M : Nat → Nat → Int32) (it i : Int32) (b : Nat) : Bool := decide (b / 2 < (M 32 5).toNatClampNeg ∧ b % 2 < (M 38 (b / 2)).toNatClampNeg ∧ M 39 b = it ∧ M 36 (b / 2) = i)
theorem w_inV {M0 : Nat → Nat → Int32} (he : yE M0) {v u : Int32} (hu : vp_in u 40) : ∀ n : Nat,
    (∀ (s r : Nat) (M : Nat → Nat → Int32), s ≤ (M0 32 5).toNatClampNeg → 4 * ((M0 32 5).toNatClampNeg - s) + 1 + r ≤ n → yW M0 M (u).toNatClampNeg (yGv M0 (100 + v) (M0 45 (u).toNatClampNeg)) (2 * s) → ∃ n' M', r ≤ n' ∧ yW M0 M' (u).toNatClampNeg (yGv M0 (100 + v) (M0 45 (u).toNatClampNeg)) 32 ∧ (fk_m_markVariable n).2.1 v u (nI s) M = (fk_m_markVariable n').1 v (u + 1) M' ∧ ((dk_m_markVariable n').1 v (u + 1) M' → (dk_m_markVariable n).2.1 v u (nI s) M)) ∧
    (∀ (s p r : Nat) (M : Nat → Nat → Int32), s < (M0 32 5).toNatClampNeg → M0 36 s = M0 45 (u).toNatClampNeg → p ≤ (M0 38 s).toNatClampNeg → 4 * ((M0 32 5).toNatClampNeg - s) - p + r ≤ n → yW M0 M (u).toNatClampNeg (yGv M0 (100 + v) (M0 45 (u).toNatClampNeg)) (2 * s + p) → ∃ n' M', r ≤ n' ∧ yW M0 M' (u).toNatClampNeg (yGv M0 (100 + v) (M0 45 (u).toNatClampNeg)) 32 ∧ (fk_m_markVariable n).2.2 v u (nI s) (nI p) M = (fk_m_markVariable n').1 v (u + 1) M' ∧ ((dk_m_markVariable n').1 v (u + 1) M' → (dk_m_markVariable n).2.2 v u (nI s) (nI p) M)) := by
  obtain ⟨e1, e2, e3, e4, e6, e8, e12, e14a, e14b, e15, e16⟩ := he
  obtain ⟨ns, hns, es⟩ := i_of16 e3 e4
  have cns : (M0 32 5).toNatClampNeg = ns := by rw [es]; exact nI_clamp (by omega)
  rw [cns]
  intro n
  induction n with
  | zero =>
    refine ⟨fun s r M hs hn => by omega, fun s p r M hs ho hp hn => ?_⟩
    obtain ⟨q, hq, eq⟩ := i_of2 (e8 s).1 (e8 s).2
    rw [eq, nI_clamp (by omega)] at hp
    omega
  | succ n ih =>
    refine ⟨fun s r M hs hn hW => ?_, fun s p r M hs ho hp hn hW => ?_⟩
    · have m5 : M 32 5 = M0 32 5 := by rw [hW.1 32 (by decide)]
      have m36 : M 36 = M0 36 := hW.1 36 (by decide)
      have m45 : M 45 = M0 45 := hW.1 45 (by decide)
      rw [fe_m_markVariable_1, de_m_markVariable_1, m5, m36, m45]
      by_cases q : M0 32 5 ≤ nI s
      · have z : ns ≤ s := by rw [es] at q; exact (nI_leI (by omega) (by omega)).1 q
        rw [if_pos q]
        refine ⟨n, M, by omega, ?_, rfl, fun h => ⟨fun _ => h, fun h => absurd q h⟩⟩
        rcases Nat.lt_or_ge 32 (2 * s) with y | y
        · exact absurd y (by omega)
        · exact yW_up hW y (fun b h1 h2 => decide_eq_false (fun h => by have := h.1; rw [cns] at this; omega))
      · rw [if_neg q]
        have z : s < ns := by
          rcases Nat.lt_or_ge s ns with z | z
          · exact z
          · exact absurd (by rw [es]; exact nI_le z (by omega)) q
        have v1 : vp_in (nI s) 16 := vp_in_nI (by omega) (by decide)
        rw [nI_clamp (by omega : s < 2 ^ 31)]
        by_cases q2 : M0 36 s = M0 45 (u).toNatClampNeg
        · rw [if_pos q2]
          obtain ⟨n', M', h1, h2, h3, h4⟩ := ih.2 s 0 r M z q2 (Nat.zero_le _) (by omega) hW
          exact ⟨n', M', h1, h2, h3, fun h => ⟨fun h => absurd h q, fun _ => ⟨v1, hu, fun _ => h4 h, fun h => absurd q2 h⟩⟩⟩
        · rw [if_neg q2, nI_1]
          obtain ⟨n', M', h1, h2, h3, h4⟩ := ih.1 (s + 1) r M (by omega) (by omega) (yW_up hW (by omega) (fun b h1 h2 => decide_eq_false (fun h => by
            have e := h.2.2.2
            have e2 : b / 2 = s := by omega
            rw [e2] at e
            exact q2 e)))
          exact ⟨n', M', h1, h2, h3, fun h => ⟨fun h => absurd h q, fun _ => ⟨v1, hu, fun h => absurd h q2, fun _ => h4 h⟩⟩⟩
    · obtain ⟨pp, hpp, ep⟩ := i_of2 (e8 s).1 (e8 s).2
      have cp : (M0 38 s).toNatClampNeg = pp := by rw [ep]; exact nI_clamp (by omega)
      rw [cp] at hp
      have v1 : vp_in (nI s) 16 := vp_in_nI (by omega) (by decide)
      have m38 : M 38 = M0 38 := hW.1 38 (by decide)
      have m39 : M 39 = M0 39 := hW.1 39 (by decide)
      rw [fe_m_markVariable_2, de_m_markVariable_2, m38, m39, nI_clamp (by omega : s < 2 ^ 31), pk_2', nI_clamp (by omega : 2 * s + p < 2 ^ 31), nI_1, nI_1]
      by_cases q : M0 38 s ≤ nI p
      · rw [if_pos q]
        have z : pp ≤ p := by rw [ep] at q; exact (nI_leI (by omega) (by omega)).1 q
        obtain ⟨n', M', h1, h2, h3, h4⟩ := ih.1 (s + 1) r M (by omega) (by omega) (yW_up hW (by omega) (fun b h1 h2 => decide_eq_false (fun h => by
          have e := h.2.1
          have e2 : b / 2 = s := by omega
          rw [e2, cp] at e
          omega)))
        exact ⟨n', M', h1, h2, h3, fun h => ⟨v1, fun _ => h4 h, fun h => absurd q h⟩⟩
      · rw [if_neg q]
        have z : p < pp := by
          rcases Nat.lt_or_ge p pp with z | z
          · exact z
          · exact absurd (by rw [ep]; exact nI_le z (by omega)) q
        have v2 : vp_in (nI (2 * s + p)) 32 := vp_in_nI (by omega) (by decide)
        have e1 : (2 * s + p) / 2 = s := by omega
        have e2 : (2 * s + p) % 2 = p := by omega
        have hy : yGv M0 (100 + v) (M0 45 (u).toNatClampNeg) (2 * s + p) = decide (M0 39 (2 * s + p) = 100 + v) := by
          unfold yGv
          rw [e1, e2, cns, cp]
          simp [hs, z, ho]
        by_cases q1 : M0 39 (2 * s + p) = 100 + v
        · have e : yGv M0 (100 + v) (M0 45 (u).toNatClampNeg) (2 * s + p) = true := by rw [hy]; exact decide_eq_true q1
          obtain ⟨n', M', h1, h2, h3, h4⟩ := ih.2 s (p + 1) r _ hs ho (by rw [cp]; omega) (by omega) (yW_set (t := 2 * s + p) hW (by omega) e)
          rw [if_neg (fun h => h q1)]
          exact ⟨n', M', h1, h2, h3, fun h => ⟨v1, fun h => absurd h q, fun _ => ⟨v2, fun h => absurd q1 h, fun _ => ⟨hu, hu, h4 h⟩⟩⟩⟩
        · have e : yGv M0 (100 + v) (M0 45 (u).toNatClampNeg) (2 * s + p) = false := by rw [hy]; exact decide_eq_false q1
          obtain ⟨n', M', h1, h2, h3, h4⟩ := ih.2 s (p + 1) r _ hs ho (by rw [cp]; omega) (by omega) (by
            refine yW_up hW (by omega) (fun b h1 h2 => ?_)
            have : b = 2 * s + p := by omega
            rw [this]; exact e)
          rw [if_pos q1]
          exact ⟨n', M', h1, h2, h3, fun h => ⟨v1, fun h => absurd h q, fun _ => ⟨v2, fun _ => h4 h, fun h => absurd q1 h⟩⟩⟩
def yL4 (S M : Nat → Nat → Int32) : Prop := M 32 17 = S 14 1 ∧ M 45 = S 15 ∧ M 46 = S 16 ∧ M 47 = S 17
theorem yGv_of {S M : Nat → Nat → Int32} (hp : yP S M) (hi : yI S) {it i : Int32} (hit : 100 ≤ it) (b : Nat) : yGv M it i b = (yH S it (-1) b && decide (S 6 (b / 2) = i)) := by
  obtain ⟨p1, p33, p34, p35, p5, p36, p37, p38, p39, p42, p44, p40, p43⟩ := hp
  obtain ⟨i5, i6, i7, i8, i10, i13, i14, i15⟩ := hi
  unfold yGv yH
  rw [p5, p38, p39, p36, ← Bool.decide_and]
  congr 1
  apply propext
  constructor
  · rintro ⟨h1, h2, h3, h5⟩
    exact ⟨⟨h1, h2, h3, i13 b (by rw [h3]; exact hit)⟩, h5⟩
  · rintro ⟨⟨h1, h2, h3, h4⟩, h5⟩
    exact ⟨h1, h2, h3, h5⟩
theorem w_stepV {S0 M0 S M M' : Nat → Nat → Int32} (hp : yP S0 M0) (hl : yL4 S0 M0) (hd : yD S0) (hi : yI S0) {it parts u : Int32} (hit : 100 ≤ it) (hpt : ∀ b, b < 32 → xb parts b = yH S0 it (-1) b) (h0 : 0 ≤ u) (h1 : u < S0 14 1) (hx : yX S0 M0 S M) (hq : yQ S0 S)
    (hw : yW M M' (u).toNatClampNeg (yGv M0 it (M0 45 (u).toNatClampNeg)) 32) : yX S0 M0 (xj_set S 19 (u).toNatClampNeg (S 19 (u).toNatClampNeg ||| (parts &&& S 5 (S 15 (u).toNatClampNeg).toNatClampNeg))) M' ∧ yQ S0 (xj_set S 19 (u).toNatClampNeg (S 19 (u).toNatClampNeg ||| (parts &&& S 5 (S 15 (u).toNatClampNeg).toNatClampNeg))) := by
  have g := yGv_of (it := it) (i := M0 45 (u).toNatClampNeg) hp hi hit
  have l45 : M0 45 = S0 15 := hl.2.1
  have o := own_bits hd hi hpt (u).toNatClampNeg
  have e5 : S 5 = S0 5 := hx.1 5 (by decide)
  have e15 : S 15 = S0 15 := hx.1 15 (by decide)
  rw [e5, e15]
  refine ⟨⟨fun c hc => ?_, fun c hc => ?_, ?_⟩, fun v b v0 v1 hb hv => ?_, fun j hj => ?_⟩
  · rw [s_set, if_neg hc]; exact hx.1 c hc
  · rw [hw.1 c hc]; exact hx.2.1 c hc
  · rw [s_set, if_pos rfl]
    funext j
    rw [u_at]
    by_cases y : j = (u).toNatClampNeg
    · rw [if_pos y]
      subst y
      apply xb_ext
      intro b hb
      rw [hw.2.2 b hb, xb_or, o b hb, g b, l45, hx.2.2]
      simp [hb]
    · rw [if_neg y, hw.2.1 j y, hx.2.2]
  · rw [s_set, if_pos rfl, u_at] at hv
    by_cases y : v = u
    · subst y
      rw [if_pos rfl, xb_or, o b hb, Bool.or_eq_true, Bool.and_eq_true] at hv
      rcases hv with hv | ⟨hv, hv2⟩
      · exact hq.1 v b v0 v1 hb hv
      · have z := of_decide_eq_true hv
        exact ⟨z.1, z.2.1, of_decide_eq_true hv2⟩
    · rw [if_neg (ix_ne v0 h0 y)] at hv
      exact hq.1 v b v0 v1 hb hv
  · rw [s_set, if_pos rfl, u_at, if_neg (by have := ix_lt h0 h1; omega)]
    exact hq.2 j hj
theorem w_all {S0 M0 : Nat → Nat → Int32} (hp : yP S0 M0) (hl : yL4 S0 M0) (hd : yD S0) (hi : yI S0) {v parts : Int32} (hv : 100 ≤ 100 + v) (hpt : ∀ b, b < 32 → xb parts b = yH S0 (100 + v) (-1) b) : ∀ (n N : Nat) (u : Int32) (S M : Nat → Nat → Int32), 0 ≤ u → u ≤ S0 14 1 → (40 : Int) < u.toInt + n → (67 : Int) * (40 - u.toInt) + 1 ≤ N → yX S0 M0 S M → yQ S0 S → ∃ S' M', fk_c_markAll n parts u S = (0, S') ∧ dk_c_markAll n parts u S ∧ (fk_m_markVariable N).1 v u M = (0, M') ∧ (dk_m_markVariable N).1 v u M ∧ yX S0 M0 S' M' ∧ yQ S0 S' := by
  have hp' := hp
  have hl' := hl
  have hd' := hd
  obtain ⟨p1, p33, p34, p35, p5, p36, p37, p38, p39, p42, p44, p40, p43⟩ := hp
  obtain ⟨l17, l45, l46, l47⟩ := hl
  have he : yE M0 := by
    unfold yE
    rw [p1, p5, p36, p38, p42, l17, l45, l46]
    exact hd
  obtain ⟨d1, d2, d3, d4, d6, d8, d12, d14a, d14b, d15, d16⟩ := hd
  intro n
  induction n with
  | zero =>
    intro N u S M h0 h1 h2
    have := Int32.le_iff_toInt_le.1 h1
    have := Int32.le_iff_toInt_le.1 d14b
    have e : (40 : Int32).toInt = 40 := by decide
    exfalso
    omega
  | succ n ih =>
    intro N u S M h0 h1 h2 h3 hx hq
    obtain ⟨N, rfl⟩ : ∃ N', N = N' + 1 := ⟨N - 1, by
      have := Int32.le_iff_toInt_le.1 h1
      have := Int32.le_iff_toInt_le.1 d14b
      have e : (40 : Int32).toInt = 40 := by decide
      omega⟩
    have x14 : S 14 = S0 14 := hx.1 14 (by decide)
    have x15 : S 15 = S0 15 := hx.1 15 (by decide)
    have x17 : S 17 = S0 17 := hx.1 17 (by decide)
    have m17 : M 32 17 = S0 14 1 := by rw [hx.2.1 32 (by decide)]; exact l17
    have m47 : M 47 = S0 17 := by rw [hx.2.1 47 (by decide)]; exact l47
    rw [fe_c_markAll_0, de_c_markAll_0, fe_m_markVariable_0, de_m_markVariable_0, x14, m17]
    by_cases q : S0 14 1 ≤ u
    · rw [if_pos q, if_pos q]
      exact ⟨S, M, rfl, ⟨fun _ => trivial, fun h => absurd q h⟩, rfl, ⟨fun _ => trivial, fun h => absurd q h⟩, hx, hq⟩
    · rw [if_neg q, if_neg q]
      have hu : u < S0 14 1 := by grind
      have vu : vp_in u 40 := v40 h0 (by grind)
      have e := i_t1 h0 hu
      have b1 := Int32.lt_iff_toInt_lt.1 hu
      have b2 := Int32.le_iff_toInt_le.1 d14b
      have e40 : (40 : Int32).toInt = 40 := by decide
      have skip := fun (N' : Nat) (hN : (67 : Int) * (40 - (u + 1).toInt) + 1 ≤ N') S M hx hq => ih N' (u + 1) S M (by grind) (by grind) (by rw [e]; omega) hN hx hq
      have df : d_c_mark u parts S := by
        have g1 := dd_isFinal (S := S) vu
        have g2 : vp_in (S 15 (u).toNatClampNeg) 12 := by rw [x15]; exact v12 (d15 _).1 (d15 _).2
        unfold d_c_mark
        repeat' (first | with_reducible exact trivial | with_reducible assumption | with_reducible apply And.intro | intro _)
      have fe : r_m_isFinal M u = r_l_isFinal S u := by
        unfold r_m_isFinal r_l_isFinal
        rw [m47, x17]
      have dm := dm_isFinal (S := M) vu
      by_cases q3 : r_l_isFinal S u = 0
      · have hw0 : yW M M (u).toNatClampNeg (yGv M (100 + v) (M 45 (u).toNatClampNeg)) 0 := ⟨fun _ _ => rfl, fun _ _ => rfl, fun b _ => by simp⟩
        have heM : yE M := by
          unfold yE
          rw [hx.2.1 32 (by decide), hx.2.1 36 (by decide), hx.2.1 38 (by decide), hx.2.1 42 (by decide), hx.2.1 45 (by decide), hx.2.1 46 (by decide)]
          exact he
        have n5 : (M 32 5) = M0 32 5 := by rw [hx.2.1 32 (by decide)]
        obtain ⟨ns, hns, es⟩ := i_of16 d3 d4
        have cns : (M 32 5).toNatClampNeg = ns := by rw [n5, p5, es]; exact nI_clamp (by omega)
        obtain ⟨n', M', w1, w2, w3, w4⟩ := (w_inV (v := v) heM vu N).1 0 (N - 65) M (Nat.zero_le _) (by rw [cns]; omega) hw0
        have gg : yGv M (100 + v) (M 45 (u).toNatClampNeg) = yGv M0 (100 + v) (M0 45 (u).toNatClampNeg) := by
          funext b
          unfold yGv
          rw [hx.2.1 32 (by decide), hx.2.1 36 (by decide), hx.2.1 38 (by decide), hx.2.1 39 (by decide), hx.2.1 45 (by decide)]
        rw [gg] at w2
        obtain ⟨y1, y2⟩ := w_stepV hp' hl' hd' hi hv hpt h0 hu hx hq w2
        obtain ⟨S', M'', g1, g2, g3, g4, g5, g6⟩ := skip n' (by rw [e]; omega) _ M' y1 y2
        have fc : f_c_mark u parts S = (0, xj_set S 19 (u).toNatClampNeg (S 19 (u).toNatClampNeg ||| (parts &&& S 5 (S 15 (u).toNatClampNeg).toNatClampNeg))) := by
          unfold f_c_mark
          rw [if_neg (fun h => h q3)]
        rw [fc, fe, if_pos q3]
        exact ⟨S', M'', g1, ⟨fun h => absurd h q, fun _ => ⟨df, g2⟩⟩, w3.trans g3, ⟨fun h => absurd h q, fun _ => ⟨dm, fun _ => w4 g4, fun h => absurd q3 h⟩⟩, g5, g6⟩
      · obtain ⟨S', M', g1, g2, g3, g4, g5, g6⟩ := skip N (by rw [e]; omega) S M hx hq
        have fc : f_c_mark u parts S = (0, S) := by
          unfold f_c_mark
          rw [if_pos q3]
        rw [fc, fe, if_neg q3]
        exact ⟨S', M', g1, ⟨fun h => absurd h q, fun _ => ⟨df, g2⟩⟩, g3, ⟨fun h => absurd h q, fun _ => ⟨dm, fun h => absurd h q3, fun _ => g4⟩⟩, g5, g6⟩
