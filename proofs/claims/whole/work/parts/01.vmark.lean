/-! marks: the class's by sets of bits, the model's one by one -/
def yH (S : Nat → Nat → Int32) (it mv : Int32) (b : Nat) : Bool := decide (b / 2 < (S 1 5).toNatClampNeg ∧ b % 2 < (S 8 (b / 2)).toNatClampNeg ∧ S 9 b = it ∧ S 10 b = mv)
theorem i_of16 {x : Int32} (h0 : 0 ≤ x) (h : x ≤ 16) : ∃ n : Nat, n ≤ 16 ∧ x = nI n := by
  obtain ⟨n, hn, rfl⟩ := i_of h0
  exact ⟨n, (nI_leI hn (by decide)).1 (show nI n ≤ nI 16 from h), rfl⟩
theorem i_of2 {x : Int32} (h0 : 0 ≤ x) (h : x ≤ 2) : ∃ n : Nat, n ≤ 2 ∧ x = nI n := by
  obtain ⟨n, hn, rfl⟩ := i_of h0
  exact ⟨n, (nI_leI hn (by decide)).1 (show nI n ≤ nI 2 from h), rfl⟩
theorem i_of40 {x : Int32} (h0 : 0 ≤ x) (h : x ≤ 40) : ∃ n : Nat, n ≤ 40 ∧ x = nI n := by
  obtain ⟨n, hn, rfl⟩ := i_of h0
  exact ⟨n, (nI_leI hn (by decide)).1 (show nI n ≤ nI 40 from h), rfl⟩
theorem w_hear {S : Nat → Nat → Int32} (hd : yD S) (it mv : Int32) : (∀ b, b < 32 → xb (r_p_partsHearing S it mv) b = yH S it mv b) ∧ d_p_partsHearing S it mv := by
  obtain ⟨d1, d2, d3, d4, d6, d8, d12, d14a, d14b, d15, d16⟩ := hd
  obtain ⟨ns, hns, es⟩ := i_of16 d3 d4
  have cns : (S 1 5).toNatClampNeg = ns := by rw [es]; exact nI_clamp (by omega)
  have key : ∀ n : Nat, (∀ (s : Nat) (acc : Int32), s ≤ ns → 4 * (ns - s) + 1 ≤ n → (∀ b, b < 32 → xb acc b = (decide (b < 2 * s) && yH S it mv b)) → (∀ b, b < 32 → xb ((rl_p_partsHearing n S).1 it mv acc (nI s)) b = yH S it mv b) ∧ (dl_p_partsHearing n S).1 it mv acc (nI s)) ∧
      (∀ (s p : Nat) (acc : Int32), s < ns → p ≤ (S 8 s).toNatClampNeg → 4 * (ns - s) - p ≤ n → (∀ b, b < 32 → xb acc b = (decide (b < 2 * s + p) && yH S it mv b)) → (∀ b, b < 32 → xb ((rl_p_partsHearing n S).2 it mv acc (nI s) (nI p)) b = yH S it mv b) ∧ (dl_p_partsHearing n S).2 it mv acc (nI s) (nI p)) := by
    intro n
    induction n with
    | zero =>
      refine ⟨fun s acc hs hn => by omega, fun s p acc hs hp hn => ?_⟩
      obtain ⟨q, hq, eq⟩ := i_of2 (d8 s).1 (d8 s).2
      rw [eq, nI_clamp (by omega)] at hp
      omega
    | succ n ih =>
      refine ⟨fun s acc hs hn hA => ?_, fun s p acc hs hp hn hA => ?_⟩
      · simp only [rl_p_partsHearing, dl_p_partsHearing]
        by_cases q : S 1 5 ≤ nI s
        · rw [es] at q
          have z := (nI_leI (by omega) (by omega)).1 q
          rw [← es] at q
          rw [if_pos q]
          refine ⟨fun b hb => ?_, fun _ => trivial, fun h => absurd q h⟩
          rw [hA b hb]
          by_cases y : b < 2 * s
          · simp [y]
          · have e : yH S it mv b = false := decide_eq_false (fun h => by have := h.1; rw [cns] at this; omega)
            rw [e, Bool.and_false]
        · rw [if_neg q]
          have z : s < ns := by
            rcases Nat.lt_or_ge s ns with z | z
            · exact z
            · exact absurd (by rw [es]; exact nI_le z (by omega)) q
          have g := ih.2 s 0 acc z (Nat.zero_le _) (by omega) (fun b hb => by rw [hA b hb, Nat.add_zero])
          exact ⟨g.1, fun h => absurd h q, fun _ => g.2⟩
      · obtain ⟨pp, hpp, ep⟩ := i_of2 (d8 s).1 (d8 s).2
        have cp : (S 8 s).toNatClampNeg = pp := by rw [ep]; exact nI_clamp (by omega)
        rw [cp] at hp
        have v1 : vp_in (nI s) 16 := vp_in_nI (by omega) (by decide)
        simp only [rl_p_partsHearing, dl_p_partsHearing]
        rw [nI_clamp (by omega : s < 2 ^ 31), pk_2, nI_clamp (by omega : 2 * s + p < 2 ^ 31), nI_1, nI_1]
        by_cases q : S 8 s ≤ nI p
        · rw [if_pos q]
          have z : pp ≤ p := by rw [ep] at q; exact (nI_leI (by omega) (by omega)).1 q
          have g := ih.1 (s + 1) acc (by omega) (by omega) (fun b hb => by
            rw [hA b hb]
            by_cases y : b < 2 * s + p
            · have y' : b < 2 * (s + 1) := by omega
              simp [y, y']
            · by_cases y2 : b < 2 * (s + 1)
              · have e : yH S it mv b = false := decide_eq_false (fun h => by
                  have h1 := h.2.1
                  have h2 : b / 2 = s := by omega
                  rw [h2, cp] at h1
                  omega)
                rw [e, Bool.and_false, Bool.and_false]
              · simp [y, y2])
          exact ⟨g.1, v1, fun _ => g.2, fun h => absurd q h⟩
        · rw [if_neg q]
          have z : p < pp := by
            rcases Nat.lt_or_ge p pp with z | z
            · exact z
            · exact absurd (by rw [ep]; exact nI_le z (by omega)) q
          have v2 : vp_in (nI (2 * s + p)) 32 := vp_in_nI (by omega) (by decide)
          have hy : yH S it mv (2 * s + p) = decide (S 9 (2 * s + p) = it ∧ S 10 (2 * s + p) = mv) := by
            unfold yH
            have e1 : (2 * s + p) / 2 = s := by omega
            have e2 : (2 * s + p) % 2 = p := by omega
            rw [e1, e2, cns, cp]
            simp [hs, z]
          have skip : yH S it mv (2 * s + p) = false → ∀ b, b < 32 → xb acc b = (decide (b < 2 * s + (p + 1)) && yH S it mv b) := by
            intro e b hb
            rw [hA b hb]
            by_cases y : b = 2 * s + p
            · subst y; rw [e, Bool.and_false, Bool.and_false]
            · have : decide (b < 2 * s + p) = decide (b < 2 * s + (p + 1)) := decide_eq_decide.2 (by omega)
              rw [this]
          by_cases q1 : S 9 (2 * s + p) = it
          · by_cases q2 : S 10 (2 * s + p) = mv
            · have e : yH S it mv (2 * s + p) = true := by rw [hy]; exact decide_eq_true ⟨q1, q2⟩
              have g := ih.2 s (p + 1) (acc ||| r_p_partBit S (nI s) (nI p)) hs (by rw [cp]; omega) (by omega) (fun b hb => by
                unfold r_p_partBit
                rw [pk_2, xb_or, xb_one _ (by omega) b hb, hA b hb]
                by_cases y : b = 2 * s + p
                · subst y; rw [e]; simp
                · have : decide (b < 2 * s + p) = decide (b < 2 * s + (p + 1)) := decide_eq_decide.2 (by omega)
                  rw [this]; simp [y])
              rw [if_neg (fun h => h q1), if_neg (fun h => h q2)]
              exact ⟨g.1, v1, fun h => absurd h q, fun _ => ⟨v2, fun h => absurd q1 h, fun _ => ⟨v2, fun h => absurd q2 h, fun _ => ⟨trivial, g.2⟩⟩⟩⟩
            · have e : yH S it mv (2 * s + p) = false := by rw [hy]; exact decide_eq_false (fun h => q2 h.2)
              have g := ih.2 s (p + 1) acc hs (by rw [cp]; omega) (by omega) (skip e)
              rw [if_neg (fun h => h q1), if_pos q2]
              exact ⟨g.1, v1, fun h => absurd h q, fun _ => ⟨v2, fun h => absurd q1 h, fun _ => ⟨v2, fun _ => g.2, fun h => absurd q2 h⟩⟩⟩
          · have e : yH S it mv (2 * s + p) = false := by rw [hy]; exact decide_eq_false (fun h => q1 h.1)
            have g := ih.2 s (p + 1) acc hs (by rw [cp]; omega) (by omega) (skip e)
            rw [if_pos q1]
            exact ⟨g.1, v1, fun h => absurd h q, fun _ => ⟨v2, fun _ => g.2, fun h => absurd q1 h⟩⟩
  have g := (key 200).1 0 0 (Nat.zero_le _) (by omega) (fun b hb => by rw [xb_0]; simp)
  rw [nI_0] at g
  unfold r_p_partsHearing d_p_partsHearing rl0_p_partsHearing dl0_p_partsHearing
  exact g
/-! the model's inner loops -/
def yW (M0 M : Nat → Nat → Int32) (j : Nat) (g : Nat → Bool) (t : Nat) : Prop := (∀ c, c ≠ 49 → M c = M0 c) ∧ (∀ i, i ≠ j → M 49 i = M0 49 i) ∧ ∀ b, b < 32 → xb (M 49 j) b = (xb (M0 49 j) b || (decide (b < t) && g b))
theorem yW_up {M0 M : Nat → Nat → Int32} {j : Nat} {g : Nat → Bool} {t t' : Nat} (h : yW M0 M j g t) (ht : t ≤ t') (hg : ∀ b, t ≤ b → b < t' → g b = false) : yW M0 M j g t' := by
  refine ⟨h.1, h.2.1, fun b hb => ?_⟩
  rw [h.2.2 b hb]
  by_cases y : b < t
  · have y' : b < t' := by omega
    simp [y, y']
  · by_cases y2 : b < t'
    · rw [hg b (by omega) y2, Bool.and_false, Bool.and_false]
    · simp [y, y2]
theorem yW_set {M0 M : Nat → Nat → Int32} {j : Nat} {g : Nat → Bool} {t : Nat} (h : yW M0 M j g t) (ht : t < 32) (hg : g t = true) : yW M0 (xj_set M 49 j (M 49 j ||| ((1 : Int32) <<< (nI t &&& 31)))) j g (t + 1) := by
  refine ⟨fun c hc => ?_, fun i hi => ?_, fun b hb => ?_⟩
  · rw [s_set, if_neg hc]; exact h.1 c hc
  · rw [s_set, if_pos rfl, u_at, if_neg hi]; exact h.2.1 i hi
  · rw [s_set, if_pos rfl, u_at, if_pos rfl, xb_or, xb_one t ht b hb, h.2.2 b hb]
    by_cases y : b = t
    · subst y; rw [hg]; simp
    · have : decide (b < t) = decide (b < t + 1) := decide_eq_decide.2 (by omega)
      rw [this]; simp [y]
def yG (M : Nat → Nat → Int32) (it mv i : Int32) (b : Nat) : Bool := decide (b / 2 < (M 32 5).toNatClampNeg ∧ b % 2 < (M 38 (b / 2)).toNatClampNeg ∧ M 39 b = it ∧ M 40 b = mv ∧ M 36 (b / 2) = i)
theorem w_in {M0 : Nat → Nat → Int32} (he : yE M0) {k mv u : Int32} (hk : vp_in k 40) (hu : vp_in u 40) : ∀ n : Nat,
    (∀ (s r : Nat) (M : Nat → Nat → Int32), s ≤ (M0 32 5).toNatClampNeg → 4 * ((M0 32 5).toNatClampNeg - s) + 1 + r ≤ n → yW M0 M (u).toNatClampNeg (yG M0 (M0 45 (k).toNatClampNeg) mv (M0 45 (u).toNatClampNeg)) (2 * s) → ∃ n' M', r ≤ n' ∧ yW M0 M' (u).toNatClampNeg (yG M0 (M0 45 (k).toNatClampNeg) mv (M0 45 (u).toNatClampNeg)) 32 ∧ (fk_m_mark n).2.1 k mv u (nI s) M = (fk_m_mark n').1 k mv (u + 1) M' ∧ ((dk_m_mark n').1 k mv (u + 1) M' → (dk_m_mark n).2.1 k mv u (nI s) M)) ∧
    (∀ (s p r : Nat) (M : Nat → Nat → Int32), s < (M0 32 5).toNatClampNeg → M0 36 s = M0 45 (u).toNatClampNeg → p ≤ (M0 38 s).toNatClampNeg → 4 * ((M0 32 5).toNatClampNeg - s) - p + r ≤ n → yW M0 M (u).toNatClampNeg (yG M0 (M0 45 (k).toNatClampNeg) mv (M0 45 (u).toNatClampNeg)) (2 * s + p) → ∃ n' M', r ≤ n' ∧ yW M0 M' (u).toNatClampNeg (yG M0 (M0 45 (k).toNatClampNeg) mv (M0 45 (u).toNatClampNeg)) 32 ∧ (fk_m_mark n).2.2 k mv u (nI s) (nI p) M = (fk_m_mark n').1 k mv (u + 1) M' ∧ ((dk_m_mark n').1 k mv (u + 1) M' → (dk_m_mark n).2.2 k mv u (nI s) (nI p) M)) := by
  obtain ⟨e1, e2, e3, e4, e6, e8, e12, e14a, e14b, e15, e16⟩ := he
  obtain ⟨ns, hns, es⟩ := i_of16 e3 e4
  have cns : (M0 32 5).toNatClampNeg = ns := by rw [es]; exact nI_clamp (by omega)
  rw [cns]
  intro n
  induction n with
  | zero =>
    refine ⟨fun s r M hs hn => by omega, fun s p r M hs ho hp hn => ?_⟩
    obtain ⟨q, hq, eq⟩ := i_of2 (e8 s).1 (e8 s).2
    rw [eq, nI_clamp (by omega)] at hp
    omega
  | succ n ih =>
    refine ⟨fun s r M hs hn hW => ?_, fun s p r M hs ho hp hn hW => ?_⟩
    · have m5 : M 32 5 = M0 32 5 := by rw [hW.1 32 (by decide)]
      have m36 : M 36 = M0 36 := hW.1 36 (by decide)
      have m45 : M 45 = M0 45 := hW.1 45 (by decide)
      simp only [fk_m_mark, dk_m_mark]
      rw [m5, m36, m45]
      by_cases q : M0 32 5 ≤ nI s
      · have z : ns ≤ s := by rw [es] at q; exact (nI_leI (by omega) (by omega)).1 q
        rw [if_pos q]
        refine ⟨n, M, by omega, ?_, rfl, fun h => ⟨fun _ => h, fun h => absurd q h⟩⟩
        rcases Nat.lt_or_ge 32 (2 * s) with y | y
        · exact absurd y (by omega)
        · exact yW_up hW y (fun b h1 h2 => decide_eq_false (fun h => by have := h.1; rw [cns] at this; omega))
      · rw [if_neg q]
        have z : s < ns := by
          rcases Nat.lt_or_ge s ns with z | z
          · exact z
          · exact absurd (by rw [es]; exact nI_le z (by omega)) q
        have v1 : vp_in (nI s) 16 := vp_in_nI (by omega) (by decide)
        rw [nI_clamp (by omega : s < 2 ^ 31)]
        by_cases q2 : M0 36 s = M0 45 (u).toNatClampNeg
        · rw [if_pos q2]
          obtain ⟨n', M', h1, h2, h3, h4⟩ := ih.2 s 0 r M z q2 (Nat.zero_le _) (by omega) hW
          exact ⟨n', M', h1, h2, h3, fun h => ⟨fun h => absurd h q, fun _ => ⟨v1, hu, fun _ => h4 h, fun h => absurd q2 h⟩⟩⟩
        · rw [if_neg q2, nI_1]
          obtain ⟨n', M', h1, h2, h3, h4⟩ := ih.1 (s + 1) r M (by omega) (by omega) (yW_up hW (by omega) (fun b h1 h2 => decide_eq_false (fun h => by
            have e := h.2.2.2.2
            have e2 : b / 2 = s := by omega
            rw [e2] at e
            exact q2 e)))
          exact ⟨n', M', h1, h2, h3, fun h => ⟨fun h => absurd h q, fun _ => ⟨v1, hu, fun h => absurd h q2, fun _ => h4 h⟩⟩⟩
    · obtain ⟨pp, hpp, ep⟩ := i_of2 (e8 s).1 (e8 s).2
      have cp : (M0 38 s).toNatClampNeg = pp := by rw [ep]; exact nI_clamp (by omega)
      rw [cp] at hp
      have v1 : vp_in (nI s) 16 := vp_in_nI (by omega) (by decide)
      have m38 : M 38 = M0 38 := hW.1 38 (by decide)
      have m39 : M 39 = M0 39 := hW.1 39 (by decide)
      have m40 : M 40 = M0 40 := hW.1 40 (by decide)
      have m45 : M 45 = M0 45 := hW.1 45 (by decide)
      simp only [fk_m_mark, dk_m_mark]
      rw [m38, m39, m40, m45, nI_clamp (by omega : s < 2 ^ 31), pk_2', nI_clamp (by omega : 2 * s + p < 2 ^ 31), nI_1, nI_1]
      by_cases q : M0 38 s ≤ nI p
      · rw [if_pos q]
        have z : pp ≤ p := by rw [ep] at q; exact (nI_leI (by omega) (by omega)).1 q
        obtain ⟨n', M', h1, h2, h3, h4⟩ := ih.1 (s + 1) r M (by omega) (by omega) (yW_up hW (by omega) (fun b h1 h2 => decide_eq_false (fun h => by
          have e := h.2.1
          have e2 : b / 2 = s := by omega
          rw [e2, cp] at e
          omega)))
        exact ⟨n', M', h1, h2, h3, fun h => ⟨v1, fun _ => h4 h, fun h => absurd q h⟩⟩
      · rw [if_neg q]
        have z : p < pp := by
          rcases Nat.lt_or_ge p pp with z | z
          · exact z
          · exact absurd (by rw [ep]; exact nI_le z (by omega)) q
        have v2 : vp_in (nI (2 * s + p)) 32 := vp_in_nI (by omega) (by decide)
        have e1 : (2 * s + p) / 2 = s := by omega
        have e2 : (2 * s + p) % 2 = p := by omega
        have hy : yG M0 (M0 45 (k).toNatClampNeg) mv (M0 45 (u).toNatClampNeg) (2 * s + p) = decide (M0 39 (2 * s + p) = M0 45 (k).toNatClampNeg ∧ M0 40 (2 * s + p) = mv) := by
          unfold yG
          rw [e1, e2, cns, cp]
          simp [hs, z, ho]
        have skip : yG M0 (M0 45 (k).toNatClampNeg) mv (M0 45 (u).toNatClampNeg) (2 * s + p) = false → yW M0 M (u).toNatClampNeg (yG M0 (M0 45 (k).toNatClampNeg) mv (M0 45 (u).toNatClampNeg)) (2 * s + (p + 1)) := by
          intro e
          refine yW_up hW (by omega) (fun b h1 h2 => ?_)
          have : b = 2 * s + p := by omega
          rw [this]; exact e
        by_cases q1 : M0 39 (2 * s + p) = M0 45 (k).toNatClampNeg
        · by_cases q2 : M0 40 (2 * s + p) = mv
          · have e : yG M0 (M0 45 (k).toNatClampNeg) mv (M0 45 (u).toNatClampNeg) (2 * s + p) = true := by rw [hy]; exact decide_eq_true ⟨q1, q2⟩
            obtain ⟨n', M', h1, h2, h3, h4⟩ := ih.2 s (p + 1) r _ hs ho (by rw [cp]; omega) (by omega) (yW_set (t := 2 * s + p) hW (by omega) e)
            rw [if_neg (fun h => h q1), if_neg (fun h => h q2)]
            exact ⟨n', M', h1, h2, h3, fun h => ⟨v1, fun h => absurd h q, fun _ => ⟨v2, hk, fun h => absurd q1 h, fun _ => ⟨v2, fun h => absurd q2 h, fun _ => ⟨hu, hu, h4 h⟩⟩⟩⟩⟩
          · have e : yG M0 (M0 45 (k).toNatClampNeg) mv (M0 45 (u).toNatClampNeg) (2 * s + p) = false := by rw [hy]; exact decide_eq_false (fun h => q2 h.2)
            obtain ⟨n', M', h1, h2, h3, h4⟩ := ih.2 s (p + 1) r _ hs ho (by rw [cp]; omega) (by omega) (skip e)
            rw [if_neg (fun h => h q1), if_pos q2]
            exact ⟨n', M', h1, h2, h3, fun h => ⟨v1, fun h => absurd h q, fun _ => ⟨v2, hk, fun h => absurd q1 h, fun _ => ⟨v2, fun _ => h4 h, fun h => absurd q2 h⟩⟩⟩⟩
        · have e : yG M0 (M0 45 (k).toNatClampNeg) mv (M0 45 (u).toNatClampNeg) (2 * s + p) = false := by rw [hy]; exact decide_eq_false (fun h => q1 h.1)
          obtain ⟨n', M', h1, h2, h3, h4⟩ := ih.2 s (p + 1) r _ hs ho (by rw [cp]; omega) (by omega) (skip e)
          rw [if_pos q1]
          exact ⟨n', M', h1, h2, h3, fun h => ⟨v1, fun h => absurd h q, fun _ => ⟨v2, hk, fun _ => h4 h, fun h => absurd q1 h⟩⟩⟩
