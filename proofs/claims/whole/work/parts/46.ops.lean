/-! the operations on one state -/
theorem yA_M {S M M2 : Nat → Nat → Int32} {t : Int32} (h : yA S M t) (hM : ∀ c, 32 ≤ c → M2 c = M c) : yA S M2 t := by
  have m := hM 32 (by decide)
  exact yA_cong h (Int32.le_refl _) (fun _ _ _ _ => rfl) rfl rfl (fun _ => rfl) (fun c h1 _ => hM c (by omega)) (by rw [m]) (by rw [m]) (by rw [m]) (by rw [m]) (by rw [m]) (fun _ => by rw [m])
theorem yA_S {S M S2 : Nat → Nat → Int32} {t : Int32} (h : yA S M t) (hS : ∀ c, c < 32 → S2 c = S c) : yA S2 M t := by
  have m := hS 14 (by decide)
  exact yA_cong h (Int32.le_refl _) (fun c _ _ h => hS c (by omega)) (by rw [m]) (by rw [m]) (fun _ => by rw [m]) (fun _ _ _ => rfl) rfl rfl rfl rfl rfl (fun _ => rfl)
theorem yA_q {S : Nat → Nat → Int32} {t t2 : Int32} (h : yA S S t) (ht : t ≤ t2) : yA (xj_set S 32 0 0) (xj_set S 32 0 0) t2 := yA_S (yA_code h ht) (fun c hc => by rw [s_set, if_neg (by omega)])
theorem os_item {S : Nat → Nat → Int32} {t a b c : Int32} (hA : yA S S t) (ht : t ≤ 900000) (ht0 : 0 ≤ t) : ∃ (tag : Nat) (v : Int32) (S1 : Nat → Nat → Int32) (r : Int32) (S2 : Nat → Nat → Int32), d_c_item a b c S ∧ f_c_item a b c S = (tag, v, S1) ∧ d_m_item a b c S1 ∧ f_m_item a b c S1 = (r, S2) ∧ yA S2 S2 (t + 60) ∧ ((tag = 0 ∧ S2 32 0 = 0 ∧ r = v) ∨ (tag = 1 ∧ S2 32 0 = 1) ∨ (tag = 2 ∧ S2 32 0 = 2)) := by
  obtain ⟨tag, v, S1, r, M1, h1, h2, h3, h4, h5, h6, h7, h8⟩ := op_item (a := a) (b := b) (c := c) hA ht ht0
  obtain ⟨tag', v', S1', r', M1', g1, g2, g3, g4, g5, g6, g7, g8⟩ := op_item (a := a) (b := b) (c := c) (yA_M hA h6) ht ht0
  obtain ⟨e1, e2⟩ := Prod.mk.inj (h2.symm.trans g2)
  obtain ⟨e2, e3⟩ := Prod.mk.inj e2
  subst e1
  subst e2
  subst e3
  exact ⟨tag, v, S1, r', M1', g1, g2, g3, g4, yA_S g5 g7, g8⟩
theorem os_sentry {S : Nat → Nat → Int32} {t a b : Int32} (hA : yA S S t) (ht : t ≤ 900000) (ht0 : 0 ≤ t) : ∃ (tag : Nat) (v : Int32) (S1 : Nat → Nat → Int32) (r : Int32) (S2 : Nat → Nat → Int32), d_c_sentry a b S ∧ f_c_sentry a b S = (tag, v, S1) ∧ d_m_sentry a b S1 ∧ f_m_sentry a b S1 = (r, S2) ∧ yA S2 S2 (t + 60) ∧ ((tag = 0 ∧ S2 32 0 = 0 ∧ r = v) ∨ (tag = 1 ∧ S2 32 0 = 1) ∨ (tag = 2 ∧ S2 32 0 = 2)) := by
  obtain ⟨tag, v, S1, r, M1, h1, h2, h3, h4, h5, h6, h7, h8⟩ := op_sentry (a := a) (b := b) hA ht ht0
  obtain ⟨tag', v', S1', r', M1', g1, g2, g3, g4, g5, g6, g7, g8⟩ := op_sentry (a := a) (b := b) (yA_M hA h6) ht ht0
  obtain ⟨e1, e2⟩ := Prod.mk.inj (h2.symm.trans g2)
  obtain ⟨e2, e3⟩ := Prod.mk.inj e2
  subst e1
  subst e2
  subst e3
  exact ⟨tag, v, S1, r', M1', g1, g2, g3, g4, yA_S g5 g7, g8⟩
theorem os_on {S : Nat → Nat → Int32} {t a b c : Int32} (hA : yA S S t) (ht : t ≤ 900000) (ht0 : 0 ≤ t) : ∃ (tag : Nat) (v : Int32) (S1 : Nat → Nat → Int32) (r : Int32) (S2 : Nat → Nat → Int32), d_c_on a b c S ∧ f_c_on a b c S = (tag, v, S1) ∧ d_m_on a b c S1 ∧ f_m_on a b c S1 = (r, S2) ∧ yA S2 S2 (t + 60) ∧ ((tag = 0 ∧ S2 32 0 = 0 ∧ r = v) ∨ (tag = 1 ∧ S2 32 0 = 1) ∨ (tag = 2 ∧ S2 32 0 = 2)) := by
  obtain ⟨tag, v, S1, r, M1, h1, h2, h3, h4, h5, h6, h7, h8⟩ := op_on (a := a) (b := b) (c := c) hA ht ht0
  obtain ⟨tag', v', S1', r', M1', g1, g2, g3, g4, g5, g6, g7, g8⟩ := op_on (a := a) (b := b) (c := c) (yA_M hA h6) ht ht0
  obtain ⟨e1, e2⟩ := Prod.mk.inj (h2.symm.trans g2)
  obtain ⟨e2, e3⟩ := Prod.mk.inj e2
  subst e1
  subst e2
  subst e3
  exact ⟨tag, v, S1, r', M1', g1, g2, g3, g4, yA_S g5 g7, g8⟩
theorem os_when {S : Nat → Nat → Int32} {t a b c d : Int32} (hA : yA S S t) (ht : t ≤ 900000) (ht0 : 0 ≤ t) : ∃ (tag : Nat) (v : Int32) (S1 : Nat → Nat → Int32) (r : Int32) (S2 : Nat → Nat → Int32), d_c_when a b c d S ∧ f_c_when a b c d S = (tag, v, S1) ∧ d_m_when a b c d S1 ∧ f_m_when a b c d S1 = (r, S2) ∧ yA S2 S2 (t + 60) ∧ ((tag = 0 ∧ S2 32 0 = 0) ∨ (tag = 1 ∧ S2 32 0 = 1) ∨ (tag = 2 ∧ S2 32 0 = 2)) := by
  obtain ⟨tag, v, S1, r, M1, h1, h2, h3, h4, h5, h6, h7, h8⟩ := op_when (a := a) (b := b) (c := c) (d := d) hA ht ht0
  obtain ⟨tag', v', S1', r', M1', g1, g2, g3, g4, g5, g6, g7, g8⟩ := op_when (a := a) (b := b) (c := c) (d := d) (yA_M hA h6) ht ht0
  obtain ⟨e1, e2⟩ := Prod.mk.inj (h2.symm.trans g2)
  obtain ⟨e2, e3⟩ := Prod.mk.inj e2
  subst e1
  subst e2
  subst e3
  exact ⟨tag, v, S1, r', M1', g1, g2, g3, g4, yA_S g5 g7, g8⟩
theorem os_begin {S : Nat → Nat → Int32} {t a : Int32} (hA : yA S S t) (ht : t ≤ 900000) (ht0 : 0 ≤ t) : ∃ (tag : Nat) (v : Int32) (S1 : Nat → Nat → Int32) (r : Int32) (S2 : Nat → Nat → Int32), d_c_begin a S ∧ f_c_begin a S = (tag, v, S1) ∧ d_m_begin a S1 ∧ f_m_begin a S1 = (r, S2) ∧ yA S2 S2 (t + 60) ∧ ((tag = 0 ∧ S2 32 0 = 0 ∧ r = v) ∨ (tag = 1 ∧ S2 32 0 = 1) ∨ (tag = 2 ∧ S2 32 0 = 2) ∨ (tag = 3 ∧ S2 32 0 = 3)) := by
  obtain ⟨tag, v, S1, r, M1, h1, h2, h3, h4, h5, h6, h7, h8⟩ := op_begin (a := a) hA ht ht0
  obtain ⟨tag', v', S1', r', M1', g1, g2, g3, g4, g5, g6, g7, g8⟩ := op_begin (a := a) (yA_M hA h6) ht ht0
  obtain ⟨e1, e2⟩ := Prod.mk.inj (h2.symm.trans g2)
  obtain ⟨e2, e3⟩ := Prod.mk.inj e2
  subst e1
  subst e2
  subst e3
  exact ⟨tag, v, S1, r', M1', g1, g2, g3, g4, yA_S g5 g7, g8⟩
theorem os_move {S : Nat → Nat → Int32} {t a b : Int32} (hA : yA S S t) (ht : t ≤ 900000) (ht0 : 0 ≤ t) : ∃ (tag : Nat) (v : Int32) (S1 : Nat → Nat → Int32) (r : Int32) (S2 : Nat → Nat → Int32), d_c_move a b S ∧ f_c_move a b S = (tag, v, S1) ∧ d_m_move a b S1 ∧ f_m_move a b S1 = (r, S2) ∧ yA S2 S2 (t + 60) ∧ ((tag = 0 ∧ S2 32 0 = 0 ∧ r = v) ∨ (tag = 4 ∧ S2 32 0 = 1) ∨ (tag = 2 ∧ S2 32 0 = 2) ∨ (tag = 1 ∧ S2 32 0 = 3) ∨ (tag = 3 ∧ S2 32 0 = 4)) := by
  obtain ⟨tag, v, S1, r, M1, h1, h2, h3, h4, h5, h6, h7, h8⟩ := op_move (a := a) (b := b) hA ht ht0
  obtain ⟨tag', v', S1', r', M1', g1, g2, g3, g4, g5, g6, g7, g8⟩ := op_move (a := a) (b := b) (yA_M hA h6) ht ht0
  obtain ⟨e1, e2⟩ := Prod.mk.inj (h2.symm.trans g2)
  obtain ⟨e2, e3⟩ := Prod.mk.inj e2
  subst e1
  subst e2
  subst e3
  exact ⟨tag, v, S1, r', M1', g1, g2, g3, g4, yA_S g5 g7, g8⟩
theorem os_set {S : Nat → Nat → Int32} {t a b : Int32} (hA : yA S S t) (ht : t ≤ 900000) (ht0 : 0 ≤ t) : ∃ (tag : Nat) (v : Int32) (S1 : Nat → Nat → Int32) (r : Int32) (S2 : Nat → Nat → Int32), d_c_set a b S ∧ f_c_set a b S = (tag, v, S1) ∧ d_m_set a b S1 ∧ f_m_set a b S1 = (r, S2) ∧ yA S2 S2 (t + 60) ∧ ((tag = 0 ∧ S2 32 0 = 0 ∧ r = v) ∨ (tag = 2 ∧ S2 32 0 = 1) ∨ (tag = 3 ∧ S2 32 0 = 2)) := by
  obtain ⟨tag, v, S1, r, M1, h1, h2, h3, h4, h5, h6, h7, h8⟩ := op_set (a := a) (b := b) hA ht ht0
  obtain ⟨tag', v', S1', r', M1', g1, g2, g3, g4, g5, g6, g7, g8⟩ := op_set (a := a) (b := b) (yA_M hA h6) ht ht0
  obtain ⟨e1, e2⟩ := Prod.mk.inj (h2.symm.trans g2)
  obtain ⟨e2, e3⟩ := Prod.mk.inj e2
  subst e1
  subst e2
  subst e3
  exact ⟨tag, v, S1, r', M1', g1, g2, g3, g4, yA_S g5 g7, g8⟩
