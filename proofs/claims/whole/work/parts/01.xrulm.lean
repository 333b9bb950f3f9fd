/-! rules for the model's methods: definedness and result in one -/
def mCr (it par : Int32) (M M' : Nat → Nat → Int32) : Prop := d_m_create it par M ∧ f_m_create it par M = (0, M')
def mAg (k mv : Int32) (M M' : Nat → Nat → Int32) : Prop := d_m_again k mv M ∧ f_m_again k mv M = (0, M')
def mEn (k mv : Int32) (M M' : Nat → Nat → Int32) : Prop := d_m_enter k mv M ∧ f_m_enter k mv M = (0, M')
def mEl (n : Nat) (k u : Int32) (M M' : Nat → Nat → Int32) : Prop := dk_m_enter n k 2 1 u M ∧ fk_m_enter n k 2 1 u M = (0, M')
def mMk (k mv : Int32) (M M' : Nat → Nat → Int32) : Prop := d_m_make k mv M ∧ f_m_make k mv M = (0, M')
def mSt (j : Nat) (M M' : Nat → Nat → Int32) : Prop := ∀ N, (dk_m_make N).1 M' → (dk_m_make (N + j)).1 M ∧ (fk_m_make (N + j)).1 M = (fk_m_make N).1 M'
def mSc (j : Nat) (p m u : Int32) (M M' : Nat → Nat → Int32) : Prop := ∀ N, (dk_m_make N).1 M' → (dk_m_make (N + j)).2 p m u M ∧ (fk_m_make (N + j)).2 p m u M = (fk_m_make N).1 M'
def ypush (M : Nat → Nat → Int32) (k mv : Int32) : Nat → Nat → Int32 := xj_set (xj_set (xj_set (xj_set M 61 (M 32 39).toNatClampNeg k) 62 (M 32 39).toNatClampNeg mv) 63 (M 32 39).toNatClampNeg 0) 32 39 (M 32 39 + 1)
def ymade (M : Nat → Nat → Int32) (i it par : Int32) : Nat → Nat → Int32 := xj_set (xj_set (xj_set (xj_set (xj_set M 32 17 (M 32 17 + 1)) 45 (i).toNatClampNeg it) 46 (i).toNatClampNeg par) 47 (i).toNatClampNeg 0) 49 (i).toNatClampNeg 0
def gEn (a : Int32) (b : Int32) (S2 : Nat → Nat → Int32) : Int32 × (Nat → Nat → Int32) := if (r_m_kindOf S2 a) ≠ 0 then (match f_m_again a b S2 with | (_, S3) => (0, S3)) else (if b ≠ 2 then (if b = 4 then ((0, (xj_set (xj_set (xj_set (xj_set S2 61 (S2 32 39).toNatClampNeg a) 62 (S2 32 39).toNatClampNeg b) 63 (S2 32 39).toNatClampNeg 0) 32 39 ((S2 32 39) + 1)))) else (if b = 9 then ((0, (xj_set (xj_set (xj_set (xj_set S2 61 (S2 32 39).toNatClampNeg a) 62 (S2 32 39).toNatClampNeg b) 63 (S2 32 39).toNatClampNeg 0) 32 39 ((S2 32 39) + 1)))) else (if b = 5 then ((0, (xj_set (xj_set (xj_set (xj_set S2 61 (S2 32 39).toNatClampNeg a) 62 (S2 32 39).toNatClampNeg b) 63 (S2 32 39).toNatClampNeg 0) 32 39 ((S2 32 39) + 1)))) else (if b ≠ 6 then (match f_m_again a b S2 with | (_, S4) => (0, S4)) else ((0, (xj_set (xj_set (xj_set (xj_set S2 61 (S2 32 39).toNatClampNeg a) 62 (S2 32 39).toNatClampNeg b) 63 (S2 32 39).toNatClampNeg 0) 32 39 ((S2 32 39) + 1)))))))) else (fk_m_enter 200 a b 1 1 S2))
def gEd (a : Int32) (b : Int32) (S2 : Nat → Nat → Int32) : Prop := d_m_kindOf S2 a ∧ (((r_m_kindOf S2 a) ≠ 0 → (d_m_again a b S2 ∧ (match f_m_again a b S2 with | (_, S3) => True))) ∧ (¬ ((r_m_kindOf S2 a) ≠ 0) → ((b ≠ 2 → ((b = 4 → (vp_in (S2 32 39) 16 ∧ (vp_in (S2 32 39) 16 ∧ (vp_in (S2 32 39) 16 ∧ (True))))) ∧ (¬ (b = 4) → ((b = 9 → (vp_in (S2 32 39) 16 ∧ (vp_in (S2 32 39) 16 ∧ (vp_in (S2 32 39) 16 ∧ (True))))) ∧ (¬ (b = 9) → ((b = 5 → (vp_in (S2 32 39) 16 ∧ (vp_in (S2 32 39) 16 ∧ (vp_in (S2 32 39) 16 ∧ (True))))) ∧ (¬ (b = 5) → ((b ≠ 6 → (d_m_again a b S2 ∧ (match f_m_again a b S2 with | (_, S4) => True))) ∧ (¬ (b ≠ 6) → (vp_in (S2 32 39) 16 ∧ (vp_in (S2 32 39) 16 ∧ (vp_in (S2 32 39) 16 ∧ (True))))))))))))) ∧ (¬ (b ≠ 2) → (dk_m_enter 200 a b 1 1 S2)))))
theorem en_f (a b : Int32) (S : Nat → Nat → Int32) : f_m_enter a b S = (match f_m_book a b S with | (v1, S1) => if v1 ≠ 0 then (match f_m_mark a b (xj_set S1 47 a.toNatClampNeg (r_m_target S1 b)) with | (_, S2) => gEn a b S2) else ((0, S1)) : Int32 × (Nat → Nat → Int32)) := rfl
theorem en_d (a b : Int32) (S : Nat → Nat → Int32) : d_m_enter a b S = (d_m_book a b S ∧ (match f_m_book a b S with | (v1, S1) => (v1 ≠ 0 → (d_m_target S1 b ∧ (vp_in a 40 ∧ (d_m_mark a b (xj_set S1 47 a.toNatClampNeg (r_m_target S1 b)) ∧ (match f_m_mark a b (xj_set S1 47 a.toNatClampNeg (r_m_target S1 b)) with | (_, S2) => gEd a b S2))))) ∧ (¬ (v1 ≠ 0) → (True))) : Prop) := rfl
theorem en_go {k mv : Int32} {M M1 M2 M3 : Nat → Nat → Int32} (db : d_m_book k mv M) (fb : f_m_book k mv M = (1, M1)) (vk : vp_in k 40) (dm : d_m_mark k mv (xj_set M1 47 (k).toNatClampNeg (r_m_target M1 mv))) (fm : f_m_mark k mv (xj_set M1 47 (k).toNatClampNeg (r_m_target M1 mv)) = (0, M2)) (gd : gEd k mv M2) (gf : gEn k mv M2 = (0, M3)) : d_m_enter k mv M ∧ f_m_enter k mv M = (0, M3) := by
  have dt := dm_target (S := M1) (a := mv)
  have o : (1 : Int32) ≠ 0 := by decide
  constructor
  · rw [en_d, fb]
    refine ⟨db, ?_⟩
    show ((1 : Int32) ≠ 0 → _) ∧ (¬ (1 : Int32) ≠ 0 → True)
    refine ⟨fun _ => ⟨dt, vk, dm, ?_⟩, fun _ => trivial⟩
    rw [fm]
    exact gd
  · rw [en_f, fb]
    show (if (1 : Int32) ≠ 0 then _ else _) = _
    rw [if_pos o, fm]
    exact gf
section XM
variable {n : Nat} {k mv it par u : Int32} {M M1 M2 M3 : Nat → Nat → Int32}
theorem mCr_cut (h : M 32 38 ≠ 0) : mCr it par M M := by
  unfold mCr d_m_create f_m_create
  rw [if_neg h]
  refine ⟨?_, rfl⟩
  repeat' (first | with_reducible exact trivial | with_reducible assumption | with_reducible contradiction | with_reducible apply And.intro | intro _)
theorem mCr_full (h : M 32 38 = 0) (h1 : M 32 17 = 40) : mCr it par M (xj_set M 32 38 1) := by
  unfold mCr d_m_create f_m_create
  rw [if_pos h, if_neg (fun q => q h1)]
  refine ⟨?_, rfl⟩
  repeat' (first | with_reducible exact trivial | with_reducible assumption | with_reducible contradiction | with_reducible apply And.intro | intro _)
theorem mCr_bk (h : M 32 38 = 0) (h1 : M 32 17 ≠ 40) (v : vp_in (M 32 17) 40) (db : d_m_book (M 32 17) 0 (xj_set M 48 (M 32 17).toNatClampNeg 0)) (fb : f_m_book (M 32 17) 0 (xj_set M 48 (M 32 17).toNatClampNeg 0) = (0, M1)) : mCr it par M M1 := by
  unfold mCr d_m_create f_m_create
  rw [if_pos h, if_pos h1, fb]
  refine ⟨?_, if_neg (fun q => q rfl)⟩
  refine ⟨fun _ => ⟨fun _ => ⟨v, db, fun q => absurd rfl q, fun _ => trivial⟩, fun q => absurd h1 q⟩, fun q => absurd h q⟩
theorem mCr_go (h : M 32 38 = 0) (h1 : M 32 17 ≠ 40) (v : vp_in (M 32 17) 40) (db : d_m_book (M 32 17) 0 (xj_set M 48 (M 32 17).toNatClampNeg 0)) (fb : f_m_book (M 32 17) 0 (xj_set M 48 (M 32 17).toNatClampNeg 0) = (1, M1)) (dm : d_m_mark (M 32 17) 0 (ymade M1 (M 32 17) it par)) (fm : f_m_mark (M 32 17) 0 (ymade M1 (M 32 17) it par) = (0, M2)) : mCr it par M M2 := by
  unfold ymade at dm fm
  unfold mCr d_m_create f_m_create
  rw [if_pos h, if_pos h1, fb]
  refine ⟨?_, ?_⟩
  · refine ⟨fun _ => ⟨fun _ => ⟨v, db, fun _ => ⟨v, v, v, v, dm, ?_⟩, fun q => absurd (by decide) q⟩, fun q => absurd h1 q⟩, fun q => absurd h q⟩
    rw [fm]
    trivial
  · show (if (1 : Int32) ≠ 0 then _ else _) = _
    rw [if_pos (by decide), fm]
theorem mAg_no (h3 : ¬ mv = 3) (h4 : mv ≠ 4) : mAg k mv M M := by
  unfold mAg d_m_again f_m_again
  rw [if_neg h3, if_pos h4]
  refine ⟨?_, rfl⟩
  repeat' (first | with_reducible exact trivial | with_reducible assumption | with_reducible contradiction | with_reducible apply And.intro | intro _)
theorem mAg_stop (E : yE M) (vk : vp_in k 40) (h34 : mv = 3 ∨ mv = 4) (h : r_m_hasFlag M k 1 = 0 ∨ r_m_hasEntry M k ≠ 0 ∨ r_m_parentActive M k = 0) : mAg k mv M M := by
  have g1 := dm_hasFlag (b := 1) E vk
  have g2 := dm_hasEntry E vk
  have g3 := dm_parentActive E vk
  unfold mAg d_m_again f_m_again
  have q : (if r_m_hasFlag M k 1 = 0 then ((0 : Int32), M) else if r_m_hasEntry M k ≠ 0 then (0, M) else if r_m_parentActive M k = 0 then (0, M) else match f_m_create (M 45 (k).toNatClampNeg) (M 46 (k).toNatClampNeg) M with | (_, S1) => (0, S1)) = (0, M) := by
    by_cases q1 : r_m_hasFlag M k 1 = 0
    · rw [if_pos q1]
    · rw [if_neg q1]
      by_cases q2 : r_m_hasEntry M k ≠ 0
      · rw [if_pos q2]
      · rw [if_neg q2]
        rcases h with h | h | h
        · exact absurd h q1
        · exact absurd h q2
        · rw [if_pos h]
  have q' : ¬ r_m_hasFlag M k 1 = 0 → ¬ r_m_hasEntry M k ≠ 0 → ¬ r_m_parentActive M k = 0 → False := by
    intro a1 a2 a3
    rcases h with h | h | h
    · exact a1 h
    · exact a2 h
    · exact a3 h
  refine ⟨?_, ?_⟩
  · refine ⟨fun _ => ⟨g1, fun _ => trivial, fun a1 => ⟨g2, fun _ => trivial, fun a2 => ⟨g3, fun _ => trivial, fun a3 => (q' a1 a2 a3).elim⟩⟩⟩, fun _ => ⟨fun _ => trivial, fun _ => ⟨g1, fun _ => trivial, fun a1 => ⟨g2, fun _ => trivial, fun a2 => ⟨g3, fun _ => trivial, fun a3 => (q' a1 a2 a3).elim⟩⟩⟩⟩⟩
  · rcases h34 with h | h
    · rw [if_pos h]; exact q
    · rw [if_neg (by rw [h]; decide), if_neg (fun z => z h)]; exact q
theorem mAg_go (E : yE M) (vk : vp_in k 40) (h34 : mv = 3 ∨ mv = 4) (q1 : ¬ r_m_hasFlag M k 1 = 0) (q2 : ¬ r_m_hasEntry M k ≠ 0) (q3 : ¬ r_m_parentActive M k = 0) (h : mCr (M 45 (k).toNatClampNeg) (M 46 (k).toNatClampNeg) M M1) : mAg k mv M M1 := by
  have g1 := dm_hasFlag (b := 1) E vk
  have g2 := dm_hasEntry E vk
  have g3 := dm_parentActive E vk
  obtain ⟨c1, c2⟩ := h
  unfold mAg d_m_again f_m_again
  rw [c2]
  dsimp only
  refine ⟨?_, ?_⟩
  · repeat' (first | with_reducible exact trivial | with_reducible assumption | with_reducible contradiction | with_reducible apply And.intro | intro _)
  · rcases h34 with h | h
    · rw [if_pos h, if_neg q1, if_neg q2, if_neg q3]
    · rw [if_neg (by rw [h]; decide), if_neg (fun z => z h), if_neg q1, if_neg q2, if_neg q3]
theorem mEn_cut (db : d_m_book k mv M) (fb : f_m_book k mv M = (0, M1)) : mEn k mv M M1 := by
  unfold mEn d_m_enter f_m_enter
  rw [fb]
  refine ⟨⟨db, fun q => absurd rfl q, fun _ => trivial⟩, if_neg (fun q => q rfl)⟩
theorem mEn_leaf (db : d_m_book k mv M) (fb : f_m_book k mv M = (1, M1)) (vk : vp_in k 40) (dm : d_m_mark k mv (xj_set M1 47 (k).toNatClampNeg (r_m_target M1 mv))) (fm : f_m_mark k mv (xj_set M1 47 (k).toNatClampNeg (r_m_target M1 mv)) = (0, M2)) (dk : d_m_kindOf M2 k) (hs : r_m_kindOf M2 k ≠ 0) (ha : mAg k mv M2 M3) : mEn k mv M M3 := by
  obtain ⟨a1, a2⟩ := ha
  refine en_go db fb vk dm fm ?_ ?_
  · unfold gEd
    refine ⟨dk, fun _ => ⟨a1, ?_⟩, fun q => absurd hs q⟩
    rw [a2]
    trivial
  · unfold gEn
    rw [if_pos hs, a2]
theorem mEn_push (db : d_m_book k mv M) (fb : f_m_book k mv M = (1, M1)) (vk : vp_in k 40) (dm : d_m_mark k mv (xj_set M1 47 (k).toNatClampNeg (r_m_target M1 mv))) (fm : f_m_mark k mv (xj_set M1 47 (k).toNatClampNeg (r_m_target M1 mv)) = (0, M2)) (dk : d_m_kindOf M2 k) (hs : r_m_kindOf M2 k = 0) (hm : mv = 4 ∨ mv = 5 ∨ mv = 6 ∨ mv = 9) (vt : vp_in (M2 32 39) 16) : mEn k mv M (ypush M2 k mv) := by
  refine en_go db fb vk dm fm ?_ ?_
  · unfold gEd
    refine ⟨dk, fun q => absurd hs q, fun _ => ⟨fun _ => ?_, fun q => ?_⟩⟩
    · refine ⟨fun _ => ⟨vt, vt, vt, trivial⟩, fun n4 => ⟨fun _ => ⟨vt, vt, vt, trivial⟩, fun n9 => ⟨fun _ => ⟨vt, vt, vt, trivial⟩, fun n5 => ⟨fun n6 => ?_, fun _ => ⟨vt, vt, vt, trivial⟩⟩⟩⟩⟩
      exfalso
      rcases hm with h | h | h | h
      · exact n4 h
      · exact n5 h
      · exact n6 h
      · exact n9 h
    · exfalso
      apply q
      rcases hm with h | h | h | h <;> (rw [h]; decide)
  · unfold gEn ypush
    rw [if_neg (fun q => q hs), if_pos (by rcases hm with h | h | h | h <;> (rw [h]; decide))]
    rcases hm with hm | hm | hm | hm
    · rw [if_pos hm]
    · subst hm
      rw [if_neg (by decide), if_neg (by decide), if_pos rfl]
    · subst hm
      rw [if_neg (by decide), if_neg (by decide), if_neg (by decide), if_neg (by decide)]
    · subst hm
      rw [if_neg (by decide), if_pos rfl]
theorem mEn_oth (db : d_m_book k mv M) (fb : f_m_book k mv M = (1, M1)) (vk : vp_in k 40) (dm : d_m_mark k mv (xj_set M1 47 (k).toNatClampNeg (r_m_target M1 mv))) (fm : f_m_mark k mv (xj_set M1 47 (k).toNatClampNeg (r_m_target M1 mv)) = (0, M2)) (dk : d_m_kindOf M2 k) (hs : r_m_kindOf M2 k = 0) (m2 : mv ≠ 2) (m4 : ¬ mv = 4) (m9 : ¬ mv = 9) (m5 : ¬ mv = 5) (m6 : mv ≠ 6) (ha : mAg k mv M2 M3) : mEn k mv M M3 := by
  obtain ⟨a1, a2⟩ := ha
  refine en_go db fb vk dm fm ?_ ?_
  · unfold gEd
    refine ⟨dk, fun q => absurd hs q, fun _ => ⟨fun _ => ⟨fun q => absurd q m4, fun _ => ⟨fun q => absurd q m9, fun _ => ⟨fun q => absurd q m5, fun _ => ⟨fun _ => ⟨a1, ?_⟩, fun q => absurd m6 q⟩⟩⟩⟩, fun q => absurd m2 q⟩⟩
    rw [a2]
    trivial
  · unfold gEn
    rw [if_neg (fun q => q hs), if_pos m2, if_neg m4, if_neg m9, if_neg m5, if_pos m6, a2]
theorem mEn_2 (db : d_m_book k 2 M) (fb : f_m_book k 2 M = (1, M1)) (vk : vp_in k 40) (dm : d_m_mark k 2 (xj_set M1 47 (k).toNatClampNeg (r_m_target M1 2))) (fm : f_m_mark k 2 (xj_set M1 47 (k).toNatClampNeg (r_m_target M1 2)) = (0, M2)) (dk : d_m_kindOf M2 k) (hs : r_m_kindOf M2 k = 0) (hl : mEl 200 k 1 M2 M3) : mEn k 2 M M3 := by
  obtain ⟨a1, a2⟩ := hl
  refine en_go db fb vk dm fm ?_ ?_
  · unfold gEd
    exact ⟨dk, fun q => absurd hs q, fun _ => ⟨fun q => absurd rfl q, fun _ => a1⟩⟩
  · unfold gEn
    rw [if_neg (fun q => q hs), if_neg (fun q => q rfl)]
    exact a2
theorem mEl_end (h : M 32 1 ≤ u) : mEl (n + 1) k u M M := by
  have ha := mAg_no (k := k) (mv := 2) (M := M) (by decide) (by decide)
  obtain ⟨a1, a2⟩ := ha
  have q1 : ¬ (1 : Int32) = 0 := by decide
  have q2 : ¬ (2 : Int32) = 4 := by decide
  have q3 : ¬ (2 : Int32) = 9 := by decide
  have q4 : ¬ (2 : Int32) = 5 := by decide
  have q5 : (2 : Int32) ≠ 6 := by decide
  unfold mEl
  rw [de_m_enter_0, fe_m_enter_0]
  rw [a2]
  dsimp only
  rw [if_pos h, if_neg q1, if_neg q2, if_neg q3, if_neg q4, if_pos q5]
  refine ⟨?_, rfl⟩
  repeat' (first | with_reducible exact trivial | with_reducible assumption | with_reducible contradiction | with_reducible apply And.intro | intro _)
theorem mEl_skip (h : ¬ M 32 1 ≤ u) (vu : vp_in u 12) (vk : vp_in k 40) (q : M 34 (u).toNatClampNeg ≠ M 45 (k).toNatClampNeg) (g : mEl n k (u + 1) M M1) : mEl (n + 1) k u M M1 := by
  obtain ⟨g1, g2⟩ := g
  unfold mEl
  rw [de_m_enter_0, fe_m_enter_0]
  rw [if_neg h, if_pos q]
  refine ⟨?_, g2⟩
  refine ⟨fun z => absurd z h, fun _ => ⟨vu, vk, fun _ => g1, fun z => absurd q z⟩⟩
theorem mEl_go (h : ¬ M 32 1 ≤ u) (vu : vp_in u 12) (vk : vp_in k 40) (q : M 34 (u).toNatClampNeg = M 45 (k).toNatClampNeg) (c : mCr u k M M1) (g : mEl n k (u + 1) M1 M2) : mEl (n + 1) k u M M2 := by
  obtain ⟨c1, c2⟩ := c
  obtain ⟨g1, g2⟩ := g
  unfold mEl
  rw [de_m_enter_0, fe_m_enter_0]
  rw [c2]
  dsimp only
  rw [if_neg h, if_neg (fun z => z q)]
  refine ⟨?_, g2⟩
  refine ⟨fun z => absurd z h, fun _ => ⟨vu, vk, fun z => absurd q z, fun _ => ⟨c1, g1⟩⟩⟩
/-! the stack -/
theorem mSt_rf (M : Nat → Nat → Int32) : mSt 0 M M := fun _ h => ⟨h, rfl⟩
theorem mSt_tr {i j : Nat} {A B C : Nat → Nat → Int32} (h : mSt i A B) (g : mSt j B C) : mSt (j + i) A C := by
  intro N hN
  obtain ⟨g1, g2⟩ := g N hN
  obtain ⟨h1, h2⟩ := h (N + j) g1
  rw [← Nat.add_assoc]
  exact ⟨h1, h2.trans g2⟩
theorem mSt_hd {j : Nat} (h1 : ¬ M 32 39 ≤ 0) (h2 : M 32 38 = 0) (v : vp_in (M 32 39 - 1) 16) (g : mSc j (M 61 (M 32 39 - 1).toNatClampNeg) (M 62 (M 32 39 - 1).toNatClampNeg) (M 63 (M 32 39 - 1).toNatClampNeg) M M1) : mSt (j + 1) M M1 := by
  intro N hN
  obtain ⟨g1, g2⟩ := g N hN
  rw [← Nat.add_assoc]
  rw [de_m_make_0, fe_m_make_0]
  rw [if_neg h1, if_neg (fun q => q h2)]
  exact ⟨⟨fun q => absurd q h1, fun _ => ⟨fun q => absurd h2 q, fun _ => ⟨v, v, v, g1⟩⟩⟩, g2⟩
theorem mSc_skip {j : Nat} {p m : Int32} (h : ¬ M 32 17 ≤ u) (vu : vp_in u 40) (q : M 46 (u).toNatClampNeg ≠ p) (g : mSc j p m (u + 1) M M1) : mSc (j + 1) p m u M M1 := by
  intro N hN
  obtain ⟨g1, g2⟩ := g N hN
  rw [← Nat.add_assoc]
  rw [de_m_make_1, fe_m_make_1]
  rw [if_neg h, if_pos q]
  exact ⟨⟨fun q => absurd q h, fun _ => ⟨vu, fun _ => g1, fun z => absurd q z⟩⟩, g2⟩
theorem mSc_nf {j : Nat} {p m : Int32} (h : ¬ M 32 17 ≤ u) (vu : vp_in u 40) (q : M 46 (u).toNatClampNeg = p) (f : ¬ r_m_follows M u m ≠ 0) (g : mSc j p m (u + 1) M M1) : mSc (j + 1) p m u M M1 := by
  have df := dm_follows (S := M) (b := m) vu
  intro N hN
  obtain ⟨g1, g2⟩ := g N hN
  rw [← Nat.add_assoc]
  rw [de_m_make_1, fe_m_make_1]
  rw [if_neg h, if_neg (fun z => z q), if_neg f]
  exact ⟨⟨fun q => absurd q h, fun _ => ⟨vu, fun z => absurd q z, fun _ => ⟨df, fun z => absurd z f, fun _ => g1⟩⟩⟩, g2⟩
theorem mSc_en {j : Nat} {p m : Int32} (h : ¬ M 32 17 ≤ u) (vu : vp_in u 40) (q : M 46 (u).toNatClampNeg = p) (f : r_m_follows M u m ≠ 0) (v : vp_in (M 32 39 - 1) 16) (e : mEn u (ycm m) (xj_set M 63 (M 32 39 - 1).toNatClampNeg (u + 1)) M1) (g : mSt j M1 M2) : mSc (j + 1) p m u M M2 := by
  have df := dm_follows (S := M) (b := m) vu
  intro N hN
  obtain ⟨g1, g2⟩ := g N hN
  obtain ⟨e1, e2⟩ := e
  rw [← Nat.add_assoc]
  by_cases h4 : m = 4
  · unfold ycm at e1 e2
    rw [if_pos h4] at e1 e2
    rw [de_m_make_1, fe_m_make_1]
    rw [e2]
    dsimp only
    rw [if_neg h, if_neg (fun z => z q), if_pos f, if_neg h, if_neg (fun z => z h4)]
    exact ⟨⟨fun q => absurd q h, fun _ => ⟨vu, fun z => absurd q z, fun _ => ⟨df, fun _ => ⟨v, fun z => absurd z h, fun _ => ⟨fun z => absurd h4 z, fun _ => ⟨e1, g1⟩⟩⟩, fun z => absurd f z⟩⟩⟩, g2⟩
  · unfold ycm at e1 e2
    rw [if_neg h4] at e1 e2
    rw [de_m_make_1, fe_m_make_1]
    rw [e2]
    dsimp only
    rw [if_neg h, if_neg (fun z => z q), if_pos f, if_neg h, if_pos h4]
    exact ⟨⟨fun q => absurd q h, fun _ => ⟨vu, fun z => absurd q z, fun _ => ⟨df, fun _ => ⟨v, fun z => absurd z h, fun _ => ⟨fun _ => ⟨e1, g1⟩, fun z => absurd h4 z⟩⟩, fun z => absurd f z⟩⟩⟩, g2⟩
theorem mSc_pop {j : Nat} {p m : Int32} (h : M 32 17 ≤ u) (v : vp_in (M 32 39 - 1) 16) (e : mAg p m (xj_set (xj_set M 63 (M 32 39 - 1).toNatClampNeg (u + 1)) 32 39 (M 32 39 - 1)) M1) (g : mSt j M1 M2) : mSc (j + 1) p m u M M2 := by
  intro N hN
  obtain ⟨g1, g2⟩ := g N hN
  obtain ⟨e1, e2⟩ := e
  rw [← Nat.add_assoc]
  rw [de_m_make_1, fe_m_make_1]
  rw [e2]
  dsimp only
  rw [if_pos h, if_pos h]
  exact ⟨⟨fun _ => ⟨v, fun _ => ⟨e1, g1⟩, fun z => absurd h z⟩, fun z => absurd h z⟩, g2⟩
theorem mMk_of {j : Nat} (e : mEn k mv (xj_set M 32 39 0) M1) (g : mSt j M1 M2) (hj : j ≤ 3999) (hf : M2 32 39 ≤ 0 ∨ M2 32 38 ≠ 0) : mMk k mv M M2 := by
  obtain ⟨e1, e2⟩ := e
  have z : (dk_m_make (4000 - j)).1 M2 ∧ (fk_m_make (4000 - j)).1 M2 = (0, M2) := by
    obtain ⟨r, hr⟩ : ∃ r, 4000 - j = r + 1 := ⟨3999 - j, by omega⟩
    rw [hr]
    rw [de_m_make_0, fe_m_make_0]
    by_cases q : M2 32 39 ≤ 0
    · rw [if_pos q]
      exact ⟨⟨fun _ => trivial, fun z => absurd q z⟩, rfl⟩
    · rw [if_neg q]
      have q2 : M2 32 38 ≠ 0 := by
        rcases hf with hf | hf
        · exact absurd hf q
        · exact hf
      rw [if_pos q2]
      exact ⟨⟨fun z => absurd z q, fun _ => ⟨fun _ => trivial, fun z => absurd q2 z⟩⟩, rfl⟩
  obtain ⟨g1, g2⟩ := g (4000 - j) z.1
  rw [Nat.sub_add_cancel (by omega)] at g1 g2
  unfold mMk d_m_make f_m_make
  rw [e2]
  exact ⟨⟨e1, g1⟩, g2.trans z.2⟩
end XM
