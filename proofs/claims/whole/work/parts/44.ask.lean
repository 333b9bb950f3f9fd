/-! the questions -/
section YZ
variable {S M : Nat → Nat → Int32} {t a b c : Int32}
theorem qy_value (hA : yA S M t) : d_c_value S a ∧ d_m_value a M ∧ f_m_value a M = (r_c_value S a, xj_set M 32 0 0) := by
  have l50 := hA.2.1.2.2.2.2.2.2.1
  have dv : d_c_isVariable S a := by
    unfold d_c_isVariable
    repeat' (first | with_reducible exact trivial | with_reducible assumption | with_reducible apply And.intro | intro _)
  have vn : r_c_isVariable S a = if 0 ≤ a ∧ a ≤ 3 then 1 else 0 := by
    unfold r_c_isVariable
    grind
  by_cases q : 0 ≤ a ∧ a ≤ 3
  · have v : vp_in a 4 := v4 q.1 (by grind)
    have W1 : r_c_isVariable S a = 1 := by rw [vn, if_pos q]
    have W2 : r_m_within (xj_set M 32 0 0) a 3 = 1 := by rw [wi, if_pos q]
    refine ⟨?_, ?_, ?_⟩
    · unfold d_c_value
      exact ⟨dv, fun _ => trivial, fun _ => ⟨v, trivial⟩⟩
    · unfold d_m_value
      exact ⟨di _ _ _, fun _ => trivial, fun _ => ⟨v, trivial⟩⟩
    · unfold f_m_value r_c_value
      rw [W1, W2, l50, if_neg (by decide), if_neg (by decide)]
  · have W1 : r_c_isVariable S a = 0 := by rw [vn, if_neg q]
    have W2 : r_m_within (xj_set M 32 0 0) a 3 = 0 := by rw [wi, if_neg q]
    refine ⟨?_, ?_, ?_⟩
    · unfold d_c_value
      rw [W1]
      exact ⟨dv, fun _ => trivial, fun h => absurd rfl h⟩
    · unfold d_m_value
      rw [W2]
      exact ⟨di _ _ _, fun _ => trivial, fun h => absurd rfl h⟩
    · unfold f_m_value r_c_value
      rw [W1, W2, if_pos rfl, if_pos rfl]
theorem qy_instances (hA : yA S M t) : d_c_instances S ∧ d_m_instances M ∧ f_m_instances M = (r_c_instances S, xj_set M 32 0 0) := by
  have l17 := hA.2.1.1
  refine ⟨trivial, trivial, ?_⟩
  unfold f_m_instances r_c_instances
  rw [l17]
theorem qy_moves (hA : yA S M t) : d_c_moves S ∧ d_m_moves M ∧ f_m_moves M = (r_c_moves S, xj_set M 32 0 0) := by
  have l24 := hA.2.1.2.2.2.2.2.2.2.1
  refine ⟨trivial, trivial, ?_⟩
  unfold f_m_moves r_c_moves
  rw [l24]
theorem l_hs (S : Nat → Nat → Int32) (a : Int32) : r_l_has S a = if 0 ≤ a ∧ a < S 14 1 then 1 else 0 := by
  unfold r_l_has
  grind
theorem qy_instance (hA : yA S M t) : d_c_instance S a b ∧ d_m_instance a b M ∧ f_m_instance a b M = (r_c_instance S a b, xj_set M 32 0 0) := by
  obtain ⟨l17, l45, l46, l47, l48, l49, l50, l24, l51, l52⟩ := hA.2.1
  have d14b := hA.2.2.1.2.2.2.2.2.2.2.2.1
  have dh := dd_has (S := S) (a := a)
  by_cases q : 0 ≤ a ∧ a < S 14 1
  · have W1 : r_l_has S a = 1 := by rw [l_hs, if_pos q]
    have v : vp_in a 40 := v40 q.1 (by grind)
    refine ⟨?_, ?_, ?_⟩
    · unfold d_c_instance
      repeat' (first | with_reducible exact trivial | with_reducible assumption | with_reducible apply And.intro | intro _)
    · unfold d_m_instance
      repeat' (first | with_reducible exact trivial | with_reducible assumption | with_reducible apply And.intro | intro _)
    · have R : r_c_instance S a b = if b = 0 then (S 15 (a).toNatClampNeg) else (if b = 1 then (S 16 (a).toNatClampNeg) else (if b = 2 then (S 17 (a).toNatClampNeg) else (if b = 3 then (S 18 (a).toNatClampNeg) else (-1)))) := by
        unfold r_c_instance
        rw [W1, if_pos (by decide)]
      unfold f_m_instance
      rw [R, l17, l45, l46, l47, l48, if_neg (by grind), if_pos q.2]
      by_cases b0 : b = 0
      · rw [if_pos b0, if_pos b0]
      · rw [if_neg b0, if_neg b0]
        by_cases b1 : b = 1
        · rw [if_pos b1, if_pos b1]
        · rw [if_neg b1, if_neg b1]
          by_cases b2 : b = 2
          · rw [if_pos b2, if_pos b2]
          · rw [if_neg b2, if_neg b2]
            by_cases b3 : b = 3
            · rw [if_pos b3, if_pos b3]
            · rw [if_neg b3, if_neg b3]
  · have W1 : r_l_has S a = 0 := by rw [l_hs, if_neg q]
    refine ⟨?_, ?_, ?_⟩
    · unfold d_c_instance
      rw [W1]
      exact ⟨dh, fun h => absurd rfl h, fun _ => trivial⟩
    · unfold d_m_instance
      rw [l17]
      exact ⟨fun _ => trivial, fun z => ⟨fun z2 => absurd ⟨by grind, z2⟩ q, fun _ => trivial⟩⟩
    · have R : r_c_instance S a b = -1 := by
        unfold r_c_instance
        rw [W1, if_neg (fun h => h rfl)]
      unfold f_m_instance
      rw [R, l17]
      by_cases z : a < 0
      · rw [if_pos z]
      · rw [if_neg z, if_neg (fun h => q ⟨by grind, h⟩)]
theorem qy_can (hA : yA S M t) : d_c_can S a b ∧ d_m_can a b M ∧ f_m_can a b M = (r_c_can S a b, xj_set M 32 0 0) := by
  have hA2 : yA S (xj_set M 32 0 0) t := yA_code hA (Int32.le_refl _)
  obtain ⟨a1, a2, a3, a4, a5, a6, a7, a8, a9, a10, a11⟩ := hA2
  have E := yE_of a1 a2 a3
  have l17 := a2.1
  have d14a := a3.2.2.2.2.2.2.2.1
  have d14b := a3.2.2.2.2.2.2.2.2.1
  have g1 := dd_has (S := S) (a := a)
  have g2 := dd_icm (S := S) (a := b)
  have dr : d_m_refusal (xj_set M 32 0 0) a b := by
    unfold d_m_refusal
    refine ⟨fun _ => trivial, fun _ => ⟨fun _ => trivial, fun n0 => ⟨fun n1 => ⟨fun _ => trivial, fun _ => ⟨fun _ => ?_, fun _ => trivial⟩⟩, fun _ => trivial⟩⟩⟩
    have g := dm_allowed (b := b) E (v40 (by grind) (by rw [l17] at n1; grind) : vp_in a 40)
    repeat' (first | with_reducible exact trivial | with_reducible assumption | with_reducible apply And.intro | intro _)
  have dM : d_m_can a b M := by
    unfold d_m_can
    exact ⟨dr, fun _ => trivial, fun _ => trivial⟩
  by_cases q : 0 ≤ a ∧ a < S 14 1
  · have W1 : r_l_has S a = 1 := by rw [l_hs, if_pos q]
    have v : vp_in a 40 := v40 q.1 (by grind)
    have g3 := dd_mayBeMoved (b := b) a3 v
    have q15 : (xj_set M 32 0 0) 32 15 = 1 := (a10 (by grind)).1
    refine ⟨?_, dM, ?_⟩
    · unfold d_c_can
      repeat' (first | with_reducible exact trivial | with_reducible assumption | with_reducible apply And.intro | intro _)
    · by_cases qb : 2 ≤ b ∧ b ≤ 9
      · have al := q_allowed a1 a2 a3 a4 a5 q.1 q.2 qb.1 qb.2
        have W2 : r_c_isCommandMove S b = 1 := by
          unfold r_c_isCommandMove
          grind
        have R : r_c_can S a b = if r_c_mayBeMoved S a b = 0 then 0 else 1 := by
          unfold r_c_can
          rw [W1, W2, if_neg (by decide), if_neg (by decide)]
        have Z : r_m_refusal (xj_set M 32 0 0) a b = if r_m_allowed (xj_set M 32 0 0) a b = 0 then 3 else 0 := by
          unfold r_m_refusal
          rw [q15, l17, if_neg (by decide), if_neg (by grind), if_pos q.2, if_neg (by grind), if_pos qb.2]
        unfold f_m_can
        rw [R, Z]
        by_cases z : r_c_mayBeMoved S a b = 0
        · rw [if_pos z, if_pos (al.2 z), if_pos (by decide)]
        · rw [if_neg z, if_neg (fun h => z (al.1 h)), if_neg (by decide)]
      · have W2 : r_c_isCommandMove S b = 0 := by
          unfold r_c_isCommandMove
          grind
        have R : r_c_can S a b = 0 := by
          unfold r_c_can
          rw [W1, W2, if_neg (by decide), if_pos rfl]
        have Z : r_m_refusal (xj_set M 32 0 0) a b = 2 := by
          unfold r_m_refusal
          rw [q15, l17, if_neg (by decide), if_neg (by grind), if_pos q.2]
          by_cases z : b < 2
          · rw [if_pos z]
          · rw [if_neg z, if_neg (by grind)]
        unfold f_m_can
        rw [R, Z, if_pos (by decide)]
  · have W1 : r_l_has S a = 0 := by rw [l_hs, if_neg q]
    refine ⟨?_, dM, ?_⟩
    · unfold d_c_can
      rw [W1]
      exact ⟨g1, fun _ => trivial, fun h => absurd rfl h⟩
    · have z : r_m_refusal (xj_set M 32 0 0) a b = 1 := by
        unfold r_m_refusal
        rw [l17]
        grind
      unfold f_m_can r_c_can
      rw [z, W1, if_pos rfl, if_pos (by decide)]
theorem qy_history (hA : yA S M t) (ht : t ≤ 900000) : d_c_history S a b ∧ d_m_history a b M ∧ f_m_history a b M = (r_c_history S a b, xj_set M 32 0 0) := by
  obtain ⟨l17, l45, l46, l47, l48, l49, l50, l24, l51, l52⟩ := hA.2.1
  have t0 := hA.2.2.2.2.2.2.1
  have t1 := hA.2.2.2.2.2.2.2.1
  by_cases q : 0 ≤ a ∧ a < 48 ∧ a < S 14 8
  · have v : vp_in (S 14 8 - 1 - a - (S 14 8 - 1 - a) / 48 * 48) 48 := by
      obtain ⟨j, hj, ej⟩ := i_of (by grind : 0 ≤ S 14 8 - 1 - a)
      rw [ej]
      have e : nI j - nI j / 48 * 48 = nI (j % 48) := pk_rem (d := 48) hj (by decide) (by decide)
      rw [e]
      exact vp_in_nI (Nat.mod_lt _ (by decide)) (by decide)
    refine ⟨?_, ?_, ?_⟩
    · unfold d_c_history
      repeat' (first | with_reducible exact trivial | with_reducible assumption | with_reducible apply And.intro | intro _)
    · unfold d_m_history
      rw [l24]
      repeat' (first | with_reducible exact trivial | with_reducible assumption | with_reducible apply And.intro | intro _)
    · have R : r_c_history S a b = if b = 0 then (S 21 (S 14 8 - 1 - a - (S 14 8 - 1 - a) / 48 * 48).toNatClampNeg) else (if b = 1 then (S 22 (S 14 8 - 1 - a - (S 14 8 - 1 - a) / 48 * 48).toNatClampNeg) else (-1)) := by
        unfold r_c_history
        rw [if_neg (by grind), if_neg (by grind), if_pos q.2.2]
      unfold f_m_history
      rw [R, l24, l51, l52, if_neg (by grind), if_neg (by grind), if_pos q.2.2]
      by_cases b0 : b = 0
      · rw [if_neg (fun h => h b0), if_pos b0]
      · rw [if_pos b0, if_neg b0]
        by_cases b1 : b = 1
        · rw [if_neg (fun h => h b1), if_pos b1]
        · rw [if_pos b1, if_neg b1]
  · refine ⟨?_, ?_, ?_⟩
    · unfold d_c_history
      exact ⟨fun _ => trivial, fun z1 => ⟨fun _ => trivial, fun z2 => ⟨fun z3 => absurd ⟨by grind, by grind, z3⟩ q, fun _ => trivial⟩⟩⟩
    · unfold d_m_history
      rw [l24]
      exact ⟨fun _ => trivial, fun z1 => ⟨fun _ => trivial, fun z2 => ⟨fun z3 => absurd ⟨by grind, by grind, z3⟩ q, fun _ => trivial⟩⟩⟩
    · have R : r_c_history S a b = -1 := by
        unfold r_c_history
        grind
      unfold f_m_history
      rw [R, l24]
      by_cases z1 : a < 0
      · rw [if_pos z1]
      · rw [if_neg z1]
        by_cases z2 : 47 < a
        · rw [if_pos z2]
        · rw [if_neg z2, if_neg (fun h => q ⟨by grind, by grind, h⟩)]
theorem qy_marked (hA : yA S M t) : d_c_marked S a b c ∧ d_m_marked a b c M ∧ f_m_marked a b c M = (r_c_marked S a b c, xj_set M 32 0 0) := by
  have hA2 : yA S (xj_set M 32 0 0) t := yA_code hA (Int32.le_refl _)
  have fe := q_isFinal (a := a) hA2.2.1
  obtain ⟨a1, a2, a3, a4, a5, a6, a7, a8, a9, a10, a11⟩ := hA
  obtain ⟨l17, l45, l46, l47, l48, l49, l50, l24, l51, l52⟩ := a2
  obtain ⟨p1, p33, p34, p35, p5, p36, p37, p38, p39, p42, p44, p40, p43⟩ := a1
  obtain ⟨d1, d2, d3, d4, d6, d8, d12, d14a, d14b, d15, d16⟩ := a3
  obtain ⟨k1, k2, k3, k4, k5, k6, k7, k8⟩ := a5
  have m5 : (xj_set M 32 0 0) 32 5 = S 1 5 := by rw [s_set, if_pos rfl, u_at, if_neg (by decide)]; exact p5
  have dh := dd_has (S := S) (a := a)
  have ds : d_p_hasSentry S b := by
    unfold d_p_hasSentry
    repeat' (first | with_reducible exact trivial | with_reducible assumption | with_reducible apply And.intro | intro _)
  have dsm : d_m_isSentry (xj_set M 32 0 0) b := by
    unfold d_m_isSentry
    repeat' (first | with_reducible exact trivial | with_reducible assumption | with_reducible apply And.intro | intro _)
  have sn : r_p_hasSentry S b = if 0 ≤ b ∧ b < S 1 5 then 1 else 0 := by
    unfold r_p_hasSentry
    grind
  have sm : r_m_isSentry (xj_set M 32 0 0) b = if 0 ≤ b ∧ b < S 1 5 then 1 else 0 := by
    unfold r_m_isSentry
    rw [m5]
    grind
  have k8' := d8 (b).toNatClampNeg
  by_cases q : 0 ≤ a ∧ a < S 14 1
  · have v : vp_in a 40 := v40 q.1 (by grind)
    have W1 : r_l_has S a = 1 := by rw [l_hs, if_pos q]
    have df := dd_isFinal (S := S) v
    have dfm := dm_isFinal (S := xj_set M 32 0 0) v
    have dp : d_p_partBit S b c := trivial
    by_cases qs : 0 ≤ b ∧ b < S 1 5
    · have vb : vp_in b 16 := v16 qs.1 (by grind)
      have W2 : r_p_hasSentry S b = 1 := by rw [sn, if_pos qs]
      have W3 : r_m_isSentry (xj_set M 32 0 0) b = 1 := by rw [sm, if_pos qs]
      refine ⟨?_, ?_, ?_⟩
      · unfold d_c_marked
        repeat' (first | with_reducible exact trivial | with_reducible assumption | with_reducible apply And.intro | intro _)
      · unfold d_m_marked
        repeat' (first | with_reducible exact trivial | with_reducible assumption | with_reducible apply And.intro | intro _)
      · have R0 : r_c_marked S a b c = if c < 0 then 0 else (if c < 2 then (if (r_l_isFinal S a) ≠ 0 then 0 else (if ((S 19 (a).toNatClampNeg) &&& (r_p_partBit S b c)) = 0 then 0 else 1)) else 0) := by
          unfold r_c_marked
          rw [W1, W2, if_neg (by decide), if_neg (by decide)]
        unfold f_m_marked
        rw [R0, W3, l17, fe, p38, p36, l45, l49, if_neg (by grind), if_neg (by grind), if_neg (by decide)]
        by_cases qc : 0 ≤ c ∧ c < 2
        · have c0 : ¬ c < 0 := by have := qc.1; clear k2 k3 k4 k5 k6 k7 k8 p43 p40; grind
          rw [if_neg c0, if_neg c0, if_pos qc.2]
          by_cases z : r_l_isFinal S a ≠ 0
          · rw [if_pos z, if_pos z]
            split <;> rfl
          · rw [if_neg z, if_neg z]
            obtain ⟨s, hs, es⟩ := i_of qs.1
            obtain ⟨p, hp, ep⟩ := i_of qc.1
            have s16 : s < 16 := (nI_ltI hs (by decide)).1 (show nI s < nI 16 by rw [← es]; exact (by grind : b < 16))
            have p2 : p < 2 := (nI_ltI hp (by decide)).1 (show nI p < nI 2 by rw [← ep]; exact qc.2)
            have cs : (b).toNatClampNeg = s := by rw [es]; exact nI_clamp hs
            have t1 := xb_test (2 * s + p) (by omega) (S 19 (a).toNatClampNeg)
            have t2 := xb_mask (2 * s + p) (by omega) (S 19 (a).toNatClampNeg)
            have kk := k6 a (2 * s + p) q.1 q.2 (by omega)
            have e1 : (2 * s + p) / 2 = s := by omega
            have e2 : (2 * s + p) % 2 = p := by omega
            rw [e1, e2] at kk
            unfold r_p_partBit
            rw [cs, es, ep, pk_2, pk_2']
            cases hx : xb (S 19 (a).toNatClampNeg) (2 * s + p)
            · rw [if_pos (t2.2 hx)]
              have n1 : (S 19 (a).toNatClampNeg >>> (nI (2 * s + p) &&& 31)) &&& 1 ≠ 1 := fun e => Bool.noConfusion (hx.symm.trans (t1.1 e))
              rw [if_pos n1]
              grind
            · obtain ⟨_, y2, y3⟩ := kk hx
              have n1 : ¬ (S 19 (a).toNatClampNeg >>> (nI (2 * s + p) &&& 31)) &&& 1 ≠ 1 := fun e => e (t1.2 hx)
              have n2 : ¬ S 19 (a).toNatClampNeg &&& ((1 : Int32) <<< (nI (2 * s + p) &&& 31)) = 0 := fun e => Bool.noConfusion (hx.symm.trans (t2.1 e))
              have n3 : nI p < S 8 s := by
                rw [← ep]
                refine ix_lt' qc.1 (d8 s).1 ?_
                rw [ep, nI_clamp hp]
                exact y2
              rw [if_neg n1, if_neg n2, if_pos n3, if_neg (fun h => h y3)]
        · by_cases z0 : c < 0
          · rw [if_pos z0, if_pos z0]
          · have n2 : ¬ c < 2 := fun h => qc ⟨by clear k2 k3 k4 k5 k6 k7 k8 p43 p40; grind, h⟩
            have n8 : ¬ c < S 8 (b).toNatClampNeg := by
              have := k8'.2
              clear k2 k3 k4 k5 k6 k7 k8 p43 p40
              grind
            rw [if_neg z0, if_neg z0, if_neg n8, if_neg n2]
    · have W2 : r_p_hasSentry S b = 0 := by rw [sn, if_neg qs]
      have W3 : r_m_isSentry (xj_set M 32 0 0) b = 0 := by rw [sm, if_neg qs]
      refine ⟨?_, ?_, ?_⟩
      · unfold d_c_marked
        rw [W2]
        exact ⟨dh, fun _ => trivial, fun _ => ⟨ds, fun _ => trivial, fun h => absurd rfl h⟩⟩
      · unfold d_m_marked
        rw [W3]
        exact ⟨fun _ => trivial, fun _ => ⟨fun _ => trivial, fun _ => ⟨dsm, fun _ => trivial, fun h => absurd rfl h⟩⟩⟩
      · have R0 : r_c_marked S a b c = 0 := by
          unfold r_c_marked
          rw [W1, W2, if_neg (by decide), if_pos rfl]
        unfold f_m_marked
        rw [R0, W3, l17, if_neg (by grind), if_neg (by grind), if_pos rfl]
  · have W1 : r_l_has S a = 0 := by rw [l_hs, if_neg q]
    refine ⟨?_, ?_, ?_⟩
    · unfold d_c_marked
      rw [W1]
      exact ⟨dh, fun _ => trivial, fun h => absurd rfl h⟩
    · unfold d_m_marked
      rw [l17]
      exact ⟨fun _ => trivial, fun z => ⟨fun _ => trivial, fun z2 => absurd ⟨by grind, by grind⟩ q⟩⟩
    · have R0 : r_c_marked S a b c = 0 := by
        unfold r_c_marked
        rw [W1, if_pos rfl]
      unfold f_m_marked
      rw [R0, l17]
      by_cases z : a < 0
      · rw [if_pos z]
      · rw [if_neg z, if_pos (by grind)]
end YZ
