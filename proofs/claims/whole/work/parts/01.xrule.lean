/-! rules for the class's cluster of methods: definedness and result in one -/
def cCr (n : Nat) (it par dep : Int32) (S S' : Nat → Nat → Int32) : Prop := (dk_c_all n).1 it par dep S ∧ (fk_c_all n).1 it par dep S = (0, S')
def cMk (n : Nat) (k mv dep : Int32) (S S' : Nat → Nat → Int32) : Prop := (dk_c_all n).2.1 k mv dep S ∧ (fk_c_all n).2.1 k mv dep S = (0, S')
def cMw (n : Nat) (k mv dep : Int32) (S S' : Nat → Nat → Int32) : Prop := (dk_c_all n).2.2.1 k mv dep S ∧ (fk_c_all n).2.2.1 k mv dep S = (0, S')
def cCw (n : Nat) (k dep : Int32) (S S' : Nat → Nat → Int32) : Prop := (dk_c_all n).2.2.2.1 k dep S ∧ (fk_c_all n).2.2.2.1 k dep S = (0, S')
def cEx (n : Nat) (k dep : Int32) (S S' : Nat → Nat → Int32) : Prop := (dk_c_all n).2.2.2.2.1 k dep S ∧ (fk_c_all n).2.2.2.2.1 k dep S = (0, S')
def cMc (n : Nat) (k st mv dep : Int32) (S S' : Nat → Nat → Int32) : Prop := (dk_c_all n).2.2.2.2.2.1 k st mv dep S ∧ (fk_c_all n).2.2.2.2.2.1 k st mv dep S = (0, S')
def cRp (n : Nat) (k dep : Int32) (S S' : Nat → Nat → Int32) : Prop := (dk_c_all n).2.2.2.2.2.2.1 k dep S ∧ (fk_c_all n).2.2.2.2.2.2.1 k dep S = (0, S')
def cCl (n : Nat) (k dep u : Int32) (S S' : Nat → Nat → Int32) : Prop := (dk_c_all n).2.2.2.2.2.2.2.1 k dep u S ∧ (fk_c_all n).2.2.2.2.2.2.2.1 k dep u S = (0, S')
def cEl (n : Nat) (k dep cnt u : Int32) (S S' : Nat → Nat → Int32) : Prop := (dk_c_all n).2.2.2.2.2.2.2.2.1 k dep cnt u S ∧ (fk_c_all n).2.2.2.2.2.2.2.2.1 k dep cnt u S = (0, S')
def cMl (n : Nat) (k st mv dep cnt u : Int32) (S S' : Nat → Nat → Int32) : Prop := (dk_c_all n).2.2.2.2.2.2.2.2.2 k st mv dep cnt u S ∧ (fk_c_all n).2.2.2.2.2.2.2.2.2 k st mv dep cnt u S = (0, S')
section XC
variable {n : Nat} {k mv dep it par cnt u st : Int32} {S S1 S2 S3 S4 : Nat → Nat → Int32}
theorem cMk_cut (h : S 0 4 ≠ 0) : cMk (n + 1) k mv dep S (xj_set S 0 4 1) := by
  unfold cMk
  rw [de_c_all_1, fe_c_all_1]
  exact ⟨⟨fun _ => trivial, fun q => absurd h q⟩, if_pos h⟩
theorem cMk_full (h : S 0 4 = 0) (h1 : S 0 3 = S 14 0) : cMk (n + 1) k mv dep S (xj_set S 0 4 1) := by
  unfold cMk
  rw [de_c_all_1, fe_c_all_1]
  rw [if_neg (fun q => q h), if_pos h1]
  refine ⟨?_, rfl⟩
  repeat' (first | with_reducible exact trivial | with_reducible assumption | with_reducible contradiction | with_reducible apply And.intro | intro _)
theorem cMk_leaf (h0 : S 0 4 = 0) (h1 : S 0 3 ≠ S 14 0) (h2 : dep ≤ 12) (dn : d_l_note k mv (xj_set S 0 3 (S 0 3 + 1))) (fn : f_l_note k mv (xj_set S 0 3 (S 0 3 + 1)) = (0, S1)) (vk : vp_in k 40) (dh : d_p_partsHearing S1 (S1 15 (k).toNatClampNeg) mv) (dm : d_c_markSiblings k (r_p_partsHearing S1 (S1 15 (k).toNatClampNeg) mv) S1) (fm : f_c_markSiblings k (r_p_partsHearing S1 (S1 15 (k).toNatClampNeg) mv) S1 = (0, S2)) (vi : vp_in (S2 15 (k).toNatClampNeg) 12)
    (hs : S2 2 (S2 15 (k).toNatClampNeg).toNatClampNeg ≠ 0) (h4 : ¬ mv = 4) (h3 : mv ≠ 3) : cMk (n + 1) k mv dep S S2 := by
  unfold cMk
  rw [de_c_all_1, fe_c_all_1]
  rw [fn]
  dsimp only
  rw [fm]
  dsimp only
  rw [if_neg (fun q => q h0), if_neg h1, if_pos h2, if_pos hs, if_neg h4, if_pos h3]
  refine ⟨?_, rfl⟩
  repeat' (first | with_reducible exact trivial | with_reducible assumption | with_reducible contradiction | with_reducible apply And.intro | intro _)
theorem cMk_rep (h0 : S 0 4 = 0) (h1 : S 0 3 ≠ S 14 0) (h2 : dep ≤ 12) (dn : d_l_note k mv (xj_set S 0 3 (S 0 3 + 1))) (fn : f_l_note k mv (xj_set S 0 3 (S 0 3 + 1)) = (0, S1)) (vk : vp_in k 40) (dh : d_p_partsHearing S1 (S1 15 (k).toNatClampNeg) mv) (dm : d_c_markSiblings k (r_p_partsHearing S1 (S1 15 (k).toNatClampNeg) mv) S1) (fm : f_c_markSiblings k (r_p_partsHearing S1 (S1 15 (k).toNatClampNeg) mv) S1 = (0, S2)) (vi : vp_in (S2 15 (k).toNatClampNeg) 12)
    (hs : S2 2 (S2 15 (k).toNatClampNeg).toNatClampNeg ≠ 0) (h34 : mv = 3 ∨ mv = 4) (hr : cRp n k (dep + 1) S2 S3) : cMk (n + 1) k mv dep S S3 := by
  unfold cMk
  obtain ⟨hr1, hr2⟩ := hr
  rw [de_c_all_1, fe_c_all_1]
  rw [fn]
  dsimp only
  rw [fm]
  dsimp only
  rw [if_neg (fun q => q h0), if_neg h1, if_pos h2, if_pos hs]
  rcases h34 with h | h
  · subst h
    rw [if_neg (by decide), if_neg (by decide)]
    refine ⟨?_, congrArg (fun p => ((0 : Int32), p.2)) hr2⟩
    have q1 : ¬ (3 : Int32) = 4 := by decide
    have q2 : (3 : Int32) = 3 := rfl
    repeat' (first | with_reducible exact trivial | with_reducible assumption | with_reducible contradiction | with_reducible apply And.intro | intro _)
  · subst h
    rw [if_pos rfl]
    refine ⟨?_, congrArg (fun p => ((0 : Int32), p.2)) hr2⟩
    have q1 : (4 : Int32) = 4 := rfl
    repeat' (first | with_reducible exact trivial | with_reducible assumption | with_reducible contradiction | with_reducible apply And.intro | intro _)
theorem cMk_stg (h0 : S 0 4 = 0) (h1 : S 0 3 ≠ S 14 0) (h2 : dep ≤ 12) (dn : d_l_note k mv (xj_set S 0 3 (S 0 3 + 1))) (fn : f_l_note k mv (xj_set S 0 3 (S 0 3 + 1)) = (0, S1)) (vk : vp_in k 40) (dh : d_p_partsHearing S1 (S1 15 (k).toNatClampNeg) mv) (dm : d_c_markSiblings k (r_p_partsHearing S1 (S1 15 (k).toNatClampNeg) mv) S1) (fm : f_c_markSiblings k (r_p_partsHearing S1 (S1 15 (k).toNatClampNeg) mv) S1 = (0, S2)) (vi : vp_in (S2 15 (k).toNatClampNeg) 12)
    (hs : S2 2 (S2 15 (k).toNatClampNeg).toNatClampNeg = 0) (h4 : ¬ mv = 4) (h3 : mv ≠ 3) (hw : cMw n k mv (dep + 1) S2 S3) : cMk (n + 1) k mv dep S S3 := by
  unfold cMk
  obtain ⟨hw1, hw2⟩ := hw
  rw [de_c_all_1, fe_c_all_1]
  rw [fn]
  dsimp only
  rw [fm]
  dsimp only
  rw [if_neg (fun q => q h0), if_neg h1, if_pos h2, if_neg (fun q => q hs), if_neg h4, if_pos h3]
  refine ⟨?_, congrArg (fun p => ((0 : Int32), p.2)) hw2⟩
  repeat' (first | with_reducible exact trivial | with_reducible assumption | with_reducible contradiction | with_reducible apply And.intro | intro _)
theorem cMk_stgr (h0 : S 0 4 = 0) (h1 : S 0 3 ≠ S 14 0) (h2 : dep ≤ 12) (dn : d_l_note k mv (xj_set S 0 3 (S 0 3 + 1))) (fn : f_l_note k mv (xj_set S 0 3 (S 0 3 + 1)) = (0, S1)) (vk : vp_in k 40) (dh : d_p_partsHearing S1 (S1 15 (k).toNatClampNeg) mv) (dm : d_c_markSiblings k (r_p_partsHearing S1 (S1 15 (k).toNatClampNeg) mv) S1) (fm : f_c_markSiblings k (r_p_partsHearing S1 (S1 15 (k).toNatClampNeg) mv) S1 = (0, S2)) (vi : vp_in (S2 15 (k).toNatClampNeg) 12)
    (hs : S2 2 (S2 15 (k).toNatClampNeg).toNatClampNeg = 0) (h34 : mv = 3 ∨ mv = 4) (hw : cMw n k mv (dep + 1) S2 S3) (hr : cRp n k (dep + 1) S3 S4) : cMk (n + 1) k mv dep S S4 := by
  unfold cMk
  obtain ⟨hw1, hw2⟩ := hw
  have e3 : S3 = ((fk_c_all n).2.2.1 k mv (dep + 1) S2).2 := by rw [hw2]
  subst e3
  obtain ⟨hr1, hr2⟩ := hr
  rw [de_c_all_1, fe_c_all_1, fn]
  dsimp only
  rw [fm]
  dsimp only
  rw [if_neg (fun q => q h0), if_neg h1, if_pos h2, if_neg (fun q => q hs)]
  rcases h34 with h | h
  · subst h
    rw [if_neg (by decide), if_neg (by decide)]
    refine ⟨?_, congrArg (fun p => ((0 : Int32), p.2)) hr2⟩
    exact ⟨fun q => absurd h0 q, fun _ => ⟨fun q => absurd q h1, fun _ => ⟨fun _ => ⟨dn, vk, dh, dm, vk, vi, fun q => absurd hs q, fun _ => ⟨hw1, fun q => absurd q (by decide), fun _ => ⟨fun q => absurd rfl q, fun _ => ⟨hr1, trivial⟩⟩⟩⟩, fun q => absurd h2 q⟩⟩⟩
  · subst h
    rw [if_pos rfl]
    refine ⟨?_, congrArg (fun p => ((0 : Int32), p.2)) hr2⟩
    exact ⟨fun q => absurd h0 q, fun _ => ⟨fun q => absurd q h1, fun _ => ⟨fun _ => ⟨dn, vk, dh, dm, vk, vi, fun q => absurd hs q, fun _ => ⟨hw1, fun _ => ⟨hr1, trivial⟩, fun q => absurd rfl q⟩⟩, fun q => absurd h2 q⟩⟩⟩
theorem cCr_cut (h : S 0 4 ≠ 0) : cCr (n + 1) it par dep S (xj_set S 0 4 1) := by
  unfold cCr
  rw [de_c_all_0, fe_c_all_0]
  exact ⟨⟨fun _ => trivial, fun q => absurd h q⟩, if_pos h⟩
theorem cCr_full (h0 : S 0 4 = 0) (h : S 14 1 = 40) : cCr (n + 1) it par dep S (xj_set S 0 4 1) := by
  unfold cCr
  rw [de_c_all_0, fe_c_all_0]
  rw [if_neg (fun q => q h0), if_neg (fun q => q h)]
  refine ⟨?_, rfl⟩
  repeat' (first | with_reducible exact trivial | with_reducible assumption | with_reducible contradiction | with_reducible apply And.intro | intro _)
theorem cCr_go {v : Int32} (h0 : S 0 4 = 0) (h : S 14 1 ≠ 40) (da : d_l_add it par S) (fa : f_l_add it par S = (v, S1)) (hm : cMk n v 0 dep S1 S2) : cCr (n + 1) it par dep S S2 := by
  unfold cCr
  obtain ⟨hm1, hm2⟩ := hm
  rw [de_c_all_0, fe_c_all_0]
  rw [fa]
  dsimp only
  rw [if_neg (fun q => q h0), if_pos h]
  refine ⟨?_, congrArg (fun p => ((0 : Int32), p.2)) hm2⟩
  repeat' (first | with_reducible exact trivial | with_reducible assumption | with_reducible contradiction | with_reducible apply And.intro | intro _)
theorem cMw_2 (h : cCw n k dep S S1) : cMw (n + 1) k 2 dep S S1 := by
  unfold cMw
  obtain ⟨h1, h2⟩ := h
  rw [de_c_all_2, fe_c_all_2]
  rw [h2]
  dsimp only
  rw [if_pos rfl]
  refine ⟨?_, rfl⟩
  have q1 : (2 : Int32) = 2 := rfl
  repeat' (first | with_reducible exact trivial | with_reducible assumption | with_reducible contradiction | with_reducible apply And.intro | intro _)
theorem cMw_49 (hm : mv = 4 ∨ mv = 9) (h : cEx n k dep S S1) : cMw (n + 1) k mv dep S S1 := by
  unfold cMw
  obtain ⟨h1, h2⟩ := h
  rw [de_c_all_2, fe_c_all_2]
  rw [h2]
  dsimp only
  rcases hm with hm | hm
  · subst hm
    refine ⟨?_, ?_⟩
    · have q1 : (4 : Int32) = 4 := rfl
      have q2 : ¬ (4 : Int32) = 2 := by decide
      have q3 : ¬ (4 : Int32) = 3 := by decide
      repeat' (first | with_reducible exact trivial | with_reducible assumption | with_reducible contradiction | with_reducible apply And.intro | intro _)
    · rw [if_neg (by decide), if_neg (by decide), if_pos rfl]
  · subst hm
    refine ⟨?_, ?_⟩
    · have q1 : (9 : Int32) = 9 := rfl
      have q2 : ¬ (9 : Int32) = 2 := by decide
      have q3 : ¬ (9 : Int32) = 3 := by decide
      have q4 : ¬ (9 : Int32) = 4 := by decide
      have q5 : ¬ (9 : Int32) = 5 := by decide
      have q6 : ¬ (9 : Int32) = 6 := by decide
      repeat' (first | with_reducible exact trivial | with_reducible assumption | with_reducible contradiction | with_reducible apply And.intro | intro _)
    · rw [if_neg (by decide), if_neg (by decide), if_neg (by decide), if_neg (by decide), if_neg (by decide), if_neg (by decide), if_neg (by decide), if_pos rfl]
theorem cMw_5 (h : cMc n k 2 5 dep S S1) : cMw (n + 1) k 5 dep S S1 := by
  unfold cMw
  obtain ⟨h1, h2⟩ := h
  rw [de_c_all_2, fe_c_all_2]
  rw [h2]
  dsimp only
  refine ⟨?_, ?_⟩
  · have q2 : ¬ (5 : Int32) = 2 := by decide
    have q3 : ¬ (5 : Int32) = 3 := by decide
    have q4 : ¬ (5 : Int32) = 4 := by decide
    have q5 : (5 : Int32) = 5 := rfl
    repeat' (first | with_reducible exact trivial | with_reducible assumption | with_reducible contradiction | with_reducible apply And.intro | intro _)
  · rw [if_neg (by decide), if_neg (by decide), if_neg (by decide), if_pos rfl]
theorem cMw_6 (h : cMc n k 3 6 dep S S1) : cMw (n + 1) k 6 dep S S1 := by
  unfold cMw
  obtain ⟨h1, h2⟩ := h
  rw [de_c_all_2, fe_c_all_2]
  rw [h2]
  dsimp only
  refine ⟨?_, ?_⟩
  · have q2 : ¬ (6 : Int32) = 2 := by decide
    have q3 : ¬ (6 : Int32) = 3 := by decide
    have q4 : ¬ (6 : Int32) = 4 := by decide
    have q5 : ¬ (6 : Int32) = 5 := by decide
    have q6 : (6 : Int32) = 6 := rfl
    repeat' (first | with_reducible exact trivial | with_reducible assumption | with_reducible contradiction | with_reducible apply And.intro | intro _)
  · rw [if_neg (by decide), if_neg (by decide), if_neg (by decide), if_neg (by decide), if_pos rfl]
theorem cMw_no (hm : mv = 0 ∨ mv = 1 ∨ mv = 3 ∨ mv = 7 ∨ mv = 8) : cMw (n + 1) k mv dep S S := by
  unfold cMw
  rw [de_c_all_2, fe_c_all_2]
  rcases hm with hm | hm | hm | hm | hm <;> (subst hm; refine ⟨?_, rfl⟩; refine ⟨fun h => absurd h (by decide), fun _ => ⟨fun _ => trivial, fun _ => ⟨fun h => absurd h (by decide), fun _ => ⟨fun h => absurd h (by decide), fun _ => ⟨fun h => absurd h (by decide), fun _ => ⟨fun _ => trivial, fun _ => ⟨fun _ => trivial, fun _ => ⟨fun h => absurd h (by decide), fun _ => trivial⟩⟩⟩⟩⟩⟩⟩⟩)
theorem cCw_of (h : cCl n k dep 0 S S1) : cCw (n + 1) k dep S S1 := h
theorem cEx_of (h : cEl n k dep (S 14 1) 0 S S1) : cEx (n + 1) k dep S S1 := h
theorem cMc_of (h : cMl n k st mv dep (S 14 1) 0 S S1) : cMc (n + 1) k st mv dep S S1 := h
theorem cRp_no (vk : vp_in k 40) (hd : yD S) (h : r_p_hasFlag S (S 15 (k).toNatClampNeg) 1 = 0 ∨ r_p_hasEntry S (S 15 (k).toNatClampNeg) ≠ 0 ∨ r_c_parentLets S k = 0) : cRp (n + 1) k dep S S := by
  unfold cRp
  have g1 := dd_hasFlag (S := S) (b := 1) (v12 (hd.2.2.2.2.2.2.2.2.2.1 (k).toNatClampNeg).1 (hd.2.2.2.2.2.2.2.2.2.1 (k).toNatClampNeg).2)
  have g2 := dd_hasEntry (a := S 15 (k).toNatClampNeg) hd
  have g3 := dd_parentLets hd vk
  rw [de_c_all_6, fe_c_all_6]
  by_cases q1 : r_p_hasFlag S (S 15 (k).toNatClampNeg) 1 = 0
  · rw [if_pos q1]
    refine ⟨?_, rfl⟩
    repeat' (first | with_reducible exact trivial | with_reducible assumption | with_reducible contradiction | with_reducible apply And.intro | intro _)
  · rw [if_neg q1]
    by_cases q2 : r_p_hasEntry S (S 15 (k).toNatClampNeg) ≠ 0
    · rw [if_pos q2]
      refine ⟨?_, rfl⟩
      repeat' (first | with_reducible exact trivial | with_reducible assumption | with_reducible contradiction | with_reducible apply And.intro | intro _)
    · rw [if_neg q2]
      have q3 : r_c_parentLets S k = 0 := by
        rcases h with h | h | h
        · exact absurd h q1
        · exact absurd h q2
        · exact h
      rw [if_pos q3]
      refine ⟨?_, rfl⟩
      repeat' (first | with_reducible exact trivial | with_reducible assumption | with_reducible contradiction | with_reducible apply And.intro | intro _)
theorem cRp_go (vk : vp_in k 40) (hd : yD S) (q1 : ¬ r_p_hasFlag S (S 15 (k).toNatClampNeg) 1 = 0) (q2 : ¬ r_p_hasEntry S (S 15 (k).toNatClampNeg) ≠ 0) (q3 : ¬ r_c_parentLets S k = 0) (h : cCr n (S 15 (k).toNatClampNeg) (S 16 (k).toNatClampNeg) dep S S1) : cRp (n + 1) k dep S S1 := by
  unfold cRp
  have g1 := dd_hasFlag (S := S) (b := 1) (v12 (hd.2.2.2.2.2.2.2.2.2.1 (k).toNatClampNeg).1 (hd.2.2.2.2.2.2.2.2.2.1 (k).toNatClampNeg).2)
  have g2 := dd_hasEntry (a := S 15 (k).toNatClampNeg) hd
  have g3 := dd_parentLets hd vk
  obtain ⟨h1, h2⟩ := h
  rw [de_c_all_6, fe_c_all_6]
  rw [h2]
  dsimp only
  rw [if_neg q1, if_neg q2, if_neg q3]
  refine ⟨?_, rfl⟩
  repeat' (first | with_reducible exact trivial | with_reducible assumption | with_reducible contradiction | with_reducible apply And.intro | intro _)
theorem cCl_end (h : S 1 0 ≤ u) : cCl (n + 1) k dep u S S := by
  unfold cCl
  rw [de_c_all_7, fe_c_all_7]
  rw [if_pos h]
  refine ⟨?_, rfl⟩
  repeat' (first | with_reducible exact trivial | with_reducible assumption | with_reducible contradiction | with_reducible apply And.intro | intro _)
theorem cCl_skip (h : ¬ S 1 0 ≤ u) (vu : vp_in u 12) (vk : vp_in k 40) (q : S 3 (u).toNatClampNeg ≠ S 15 (k).toNatClampNeg) (g : cCl n k dep (u + 1) S S1) : cCl (n + 1) k dep u S S1 := by
  unfold cCl
  obtain ⟨g1, g2⟩ := g
  rw [de_c_all_7, fe_c_all_7]
  rw [if_neg h, if_pos q]
  refine ⟨?_, g2⟩
  repeat' (first | with_reducible exact trivial | with_reducible assumption | with_reducible contradiction | with_reducible apply And.intro | intro _)
theorem cCl_go (h : ¬ S 1 0 ≤ u) (vu : vp_in u 12) (vk : vp_in k 40) (q : S 3 (u).toNatClampNeg = S 15 (k).toNatClampNeg) (c : cCr n u k dep S S1) (g : cCl n k dep (u + 1) S1 S2) : cCl (n + 1) k dep u S S2 := by
  unfold cCl
  obtain ⟨c1, c2⟩ := c
  obtain ⟨g1, g2⟩ := g
  rw [de_c_all_7, fe_c_all_7]
  rw [c2]
  dsimp only
  rw [if_neg h, if_neg (fun h => h q)]
  refine ⟨?_, g2⟩
  repeat' (first | with_reducible exact trivial | with_reducible assumption | with_reducible contradiction | with_reducible apply And.intro | intro _)
/-! the loops that go down to children, all in one -/
def cLp (n : Nat) (k m dep cnt u : Int32) (S S' : Nat → Nat → Int32) : Prop := if m = 5 then cMl n k 2 5 dep cnt u S S' else if m = 6 then cMl n k 3 6 dep cnt u S S' else cEl n k dep cnt u S S'
def yfol (S : Nat → Nat → Int32) (u m : Int32) : Prop := if m = 5 then S 17 (u).toNatClampNeg = 2 else if m = 6 then S 17 (u).toNatClampNeg = 3 else r_l_isFinal S u = 0
def ycm (m : Int32) : Int32 := if m = 4 then 9 else m
theorem cLp_end {m : Int32} (h : cnt ≤ u) : cLp (n + 1) k m dep cnt u S S := by
  have g1 : ∀ st mv, cMl (n + 1) k st mv dep cnt u S S := by
    intro st mv
    unfold cMl
    rw [de_c_all_9, fe_c_all_9, if_pos h]
    refine ⟨?_, rfl⟩
    repeat' (first | with_reducible exact trivial | with_reducible assumption | with_reducible contradiction | with_reducible apply And.intro | intro _)
  have g2 : cEl (n + 1) k dep cnt u S S := by
    unfold cEl
    rw [de_c_all_8, fe_c_all_8, if_pos h]
    refine ⟨?_, rfl⟩
    repeat' (first | with_reducible exact trivial | with_reducible assumption | with_reducible contradiction | with_reducible apply And.intro | intro _)
  unfold cLp
  split
  · exact g1 2 5
  · split
    · exact g1 3 6
    · exact g2
theorem cLp_skip {m : Int32} (h : ¬ cnt ≤ u) (vu : vp_in u 40) (q : S 16 (u).toNatClampNeg ≠ k) (g : cLp n k m dep cnt (u + 1) S S1) : cLp (n + 1) k m dep cnt u S S1 := by
  unfold cLp at g ⊢
  split
  · rename_i h5
    rw [if_pos h5] at g
    obtain ⟨g1, g2⟩ := g
    unfold cMl
    rw [de_c_all_9, fe_c_all_9]
    rw [if_neg h, if_pos q]
    refine ⟨?_, g2⟩
    repeat' (first | with_reducible exact trivial | with_reducible assumption | with_reducible contradiction | with_reducible apply And.intro | intro _)
  · rename_i h5
    rw [if_neg h5] at g
    split
    · rename_i h6
      rw [if_pos h6] at g
      obtain ⟨g1, g2⟩ := g
      unfold cMl
      rw [de_c_all_9, fe_c_all_9]
      rw [if_neg h, if_pos q]
      refine ⟨?_, g2⟩
      repeat' (first | with_reducible exact trivial | with_reducible assumption | with_reducible contradiction | with_reducible apply And.intro | intro _)
    · rename_i h6
      rw [if_neg h6] at g
      obtain ⟨g1, g2⟩ := g
      unfold cEl
      rw [de_c_all_8, fe_c_all_8]
      rw [if_neg h, if_pos q]
      refine ⟨?_, g2⟩
      repeat' (first | with_reducible exact trivial | with_reducible assumption | with_reducible contradiction | with_reducible apply And.intro | intro _)
theorem cLp_nf {m : Int32} (h : ¬ cnt ≤ u) (vu : vp_in u 40) (q : S 16 (u).toNatClampNeg = k) (f : ¬ yfol S u m) (g : cLp n k m dep cnt (u + 1) S S1) : cLp (n + 1) k m dep cnt u S S1 := by
  have df := dd_isFinal (S := S) vu
  unfold cLp at g ⊢
  unfold yfol at f
  split
  · rename_i h5
    rw [if_pos h5] at g f
    obtain ⟨g1, g2⟩ := g
    unfold cMl
    rw [de_c_all_9, fe_c_all_9]
    rw [if_neg h, if_neg (fun h => h q), if_pos f]
    refine ⟨?_, g2⟩
    repeat' (first | with_reducible exact trivial | with_reducible assumption | with_reducible contradiction | with_reducible apply And.intro | intro _)
  · rename_i h5
    rw [if_neg h5] at g f
    split
    · rename_i h6
      rw [if_pos h6] at g f
      obtain ⟨g1, g2⟩ := g
      unfold cMl
      rw [de_c_all_9, fe_c_all_9]
      rw [if_neg h, if_neg (fun h => h q), if_pos f]
      refine ⟨?_, g2⟩
      repeat' (first | with_reducible exact trivial | with_reducible assumption | with_reducible contradiction | with_reducible apply And.intro | intro _)
    · rename_i h6
      rw [if_neg h6] at g f
      obtain ⟨g1, g2⟩ := g
      unfold cEl
      rw [de_c_all_8, fe_c_all_8]
      rw [if_neg h, if_neg (fun h => h q), if_pos f]
      refine ⟨?_, g2⟩
      repeat' (first | with_reducible exact trivial | with_reducible assumption | with_reducible contradiction | with_reducible apply And.intro | intro _)
theorem cLp_go {m : Int32} (hm : m = 4 ∨ m = 5 ∨ m = 6 ∨ m = 9) (h : ¬ cnt ≤ u) (vu : vp_in u 40) (q : S 16 (u).toNatClampNeg = k) (f : yfol S u m) (c : cMk n u (ycm m) dep S S1) (g : cLp n k m dep cnt (u + 1) S1 S2) : cLp (n + 1) k m dep cnt u S S2 := by
  have df := dd_isFinal (S := S) vu
  unfold cLp at g ⊢
  unfold yfol at f
  unfold cMk ycm at c
  split
  · rename_i h5
    rw [if_pos h5] at g f
    rw [h5, if_neg (by decide)] at c
    obtain ⟨g1, g2⟩ := g
    obtain ⟨c1, c2⟩ := c
    unfold cMl
    rw [de_c_all_9, fe_c_all_9]
    rw [c2]
    dsimp only
    rw [if_neg h, if_neg (fun h => h q), if_neg (fun h => h f)]
    refine ⟨?_, g2⟩
    repeat' (first | with_reducible exact trivial | with_reducible assumption | with_reducible contradiction | with_reducible apply And.intro | intro _)
  · rename_i h5
    rw [if_neg h5] at g f
    split
    · rename_i h6
      rw [if_pos h6] at g f
      rw [h6, if_neg (by decide)] at c
      obtain ⟨g1, g2⟩ := g
      obtain ⟨c1, c2⟩ := c
      unfold cMl
      rw [de_c_all_9, fe_c_all_9]
      rw [c2]
      dsimp only
      rw [if_neg h, if_neg (fun h => h q), if_neg (fun h => h f)]
      refine ⟨?_, g2⟩
      repeat' (first | with_reducible exact trivial | with_reducible assumption | with_reducible contradiction | with_reducible apply And.intro | intro _)
    · rename_i h6
      rw [if_neg h6] at g f
      have e9 : (if m = 4 then 9 else m) = 9 := by
        rcases hm with hm | hm | hm | hm
        · rw [if_pos hm]
        · exact absurd hm h5
        · exact absurd hm h6
        · rw [hm]; rfl
      rw [e9] at c
      obtain ⟨g1, g2⟩ := g
      obtain ⟨c1, c2⟩ := c
      unfold cEl
      rw [de_c_all_8, fe_c_all_8]
      rw [c2]
      dsimp only
      rw [if_neg h, if_neg (fun h => h q), if_neg (fun h => h f)]
      refine ⟨?_, g2⟩
      repeat' (first | with_reducible exact trivial | with_reducible assumption | with_reducible contradiction | with_reducible apply And.intro | intro _)
theorem cMw_lp {m : Int32} (hm : m = 4 ∨ m = 5 ∨ m = 6 ∨ m = 9) (h : cLp n k m dep (S 14 1) 0 S S1) : cMw (n + 2) k m dep S S1 := by
  unfold cLp at h
  rcases hm with hm | hm | hm | hm
  · subst hm
    rw [if_neg (by decide), if_neg (by decide)] at h
    exact cMw_49 (Or.inl rfl) (cEx_of h)
  · subst hm
    rw [if_pos rfl] at h
    exact cMw_5 (cMc_of h)
  · subst hm
    rw [if_neg (by decide), if_pos rfl] at h
    exact cMw_6 (cMc_of h)
  · subst hm
    rw [if_neg (by decide), if_neg (by decide)] at h
    exact cMw_49 (Or.inr rfl) (cEx_of h)
end XC
