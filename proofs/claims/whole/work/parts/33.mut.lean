/-! the methods that store, as functions -/
def f_l_copyFrom14  (S : (Nat → Nat → Int32)) : Int32 × (Nat → Nat → Int32) := (0, (xj_setA (xj_setA (xj_set (xj_setA (xj_setA (xj_setA (xj_setA (xj_setA (xj_setA (xj_set (xj_set S 14 0 (S 23 0)) 14 1 (S 23 1)) 15 (va_cpy (S 24) (S 15) 0 0 40)) 16 (va_cpy (S 25) (S 16) 0 0 40)) 17 (va_cpy (S 26) (S 17) 0 0 40)) 18 (va_cpy (S 27) (S 18) 0 0 40)) 19 (va_cpy (S 28) (S 19) 0 0 40)) 20 (va_cpy (S 29) (S 20) 0 0 4)) 14 8 (S 23 8)) 21 (va_cpy (S 30) (S 21) 0 0 48)) 22 (va_cpy (S 31) (S 22) 0 0 48)))
def d_l_copyFrom14  (S : (Nat → Nat → Int32)) : Prop := True
seal f_l_copyFrom14 d_l_copyFrom14
set_option maxHeartbeats 4000000 in
set_option maxRecDepth 100000 in
theorem ok_l_copyFrom14 {L : Nat} {xs : Nat → Int32} {T : Nat → Nat → Int64} {D : Nat} {S : (Nat → Nat → Int32)} {P : (Option Value ⊕ Nat) → xj_W → Nat → Nat → Prop} (hD : 0 ≤ D) (hd : d_l_copyFrom14  S) (h : ∀ v S9, (v, S9) = f_l_copyFrom14  S → P (.inl none) (SH, S9, T) 0 0) : xj_E (xX L xs) D 9 0 [(0, .ref 14), (1, .ref 23)] [] (SH, S, T) P := by
  unfold d_l_copyFrom14 at hd
  unfold f_l_copyFrom14 at h
  refine xj_E.adv 16 (pc' := 31) (ls' := [(0, .ref 14), (1, .ref 23)]) (st' := []) (w' := (SH, (xj_setA (xj_set (xj_set S 14 0 (S 23 0)) 14 1 (S 23 1)) 15 (va_cpy (S 24) (S 15) 0 0 40)), T)) rfl ?_
  refine xj_E.adv 8 (pc' := 46) (ls' := [(0, .ref 14), (1, .ref 23)]) (st' := []) (w' := (SH, (xj_setA (xj_setA (xj_set (xj_set S 14 0 (S 23 0)) 14 1 (S 23 1)) 15 (va_cpy (S 24) (S 15) 0 0 40)) 16 (va_cpy (S 25) (S 16) 0 0 40)), T)) rfl ?_
  refine xj_E.adv 8 (pc' := 61) (ls' := [(0, .ref 14), (1, .ref 23)]) (st' := []) (w' := (SH, (xj_setA (xj_setA (xj_setA (xj_set (xj_set S 14 0 (S 23 0)) 14 1 (S 23 1)) 15 (va_cpy (S 24) (S 15) 0 0 40)) 16 (va_cpy (S 25) (S 16) 0 0 40)) 17 (va_cpy (S 26) (S 17) 0 0 40)), T)) rfl ?_
  refine xj_E.adv 8 (pc' := 76) (ls' := [(0, .ref 14), (1, .ref 23)]) (st' := []) (w' := (SH, (xj_setA (xj_setA (xj_setA (xj_setA (xj_set (xj_set S 14 0 (S 23 0)) 14 1 (S 23 1)) 15 (va_cpy (S 24) (S 15) 0 0 40)) 16 (va_cpy (S 25) (S 16) 0 0 40)) 17 (va_cpy (S 26) (S 17) 0 0 40)) 18 (va_cpy (S 27) (S 18) 0 0 40)), T)) rfl ?_
  refine xj_E.adv 8 (pc' := 91) (ls' := [(0, .ref 14), (1, .ref 23)]) (st' := []) (w' := (SH, (xj_setA (xj_setA (xj_setA (xj_setA (xj_setA (xj_set (xj_set S 14 0 (S 23 0)) 14 1 (S 23 1)) 15 (va_cpy (S 24) (S 15) 0 0 40)) 16 (va_cpy (S 25) (S 16) 0 0 40)) 17 (va_cpy (S 26) (S 17) 0 0 40)) 18 (va_cpy (S 27) (S 18) 0 0 40)) 19 (va_cpy (S 28) (S 19) 0 0 40)), T)) rfl ?_
  refine xj_E.adv 8 (pc' := 105) (ls' := [(0, .ref 14), (1, .ref 23)]) (st' := []) (w' := (SH, (xj_setA (xj_setA (xj_setA (xj_setA (xj_setA (xj_setA (xj_set (xj_set S 14 0 (S 23 0)) 14 1 (S 23 1)) 15 (va_cpy (S 24) (S 15) 0 0 40)) 16 (va_cpy (S 25) (S 16) 0 0 40)) 17 (va_cpy (S 26) (S 17) 0 0 40)) 18 (va_cpy (S 27) (S 18) 0 0 40)) 19 (va_cpy (S 28) (S 19) 0 0 40)) 20 (va_cpy (S 29) (S 20) 0 0 4)), T)) rfl ?_
  refine xj_E.adv 12 (pc' := 128) (ls' := [(0, .ref 14), (1, .ref 23)]) (st' := []) (w' := (SH, (xj_setA (xj_set (xj_setA (xj_setA (xj_setA (xj_setA (xj_setA (xj_setA (xj_set (xj_set S 14 0 (S 23 0)) 14 1 (S 23 1)) 15 (va_cpy (S 24) (S 15) 0 0 40)) 16 (va_cpy (S 25) (S 16) 0 0 40)) 17 (va_cpy (S 26) (S 17) 0 0 40)) 18 (va_cpy (S 27) (S 18) 0 0 40)) 19 (va_cpy (S 28) (S 19) 0 0 40)) 20 (va_cpy (S 29) (S 20) 0 0 4)) 14 8 (S 23 8)) 21 (va_cpy (S 30) (S 21) 0 0 48)), T)) rfl ?_
  refine xj_E.adv 8 (pc' := 143) (ls' := [(0, .ref 14), (1, .ref 23)]) (st' := []) (w' := (SH, (xj_setA (xj_setA (xj_set (xj_setA (xj_setA (xj_setA (xj_setA (xj_setA (xj_setA (xj_set (xj_set S 14 0 (S 23 0)) 14 1 (S 23 1)) 15 (va_cpy (S 24) (S 15) 0 0 40)) 16 (va_cpy (S 25) (S 16) 0 0 40)) 17 (va_cpy (S 26) (S 17) 0 0 40)) 18 (va_cpy (S 27) (S 18) 0 0 40)) 19 (va_cpy (S 28) (S 19) 0 0 40)) 20 (va_cpy (S 29) (S 20) 0 0 4)) 14 8 (S 23 8)) 21 (va_cpy (S 30) (S 21) 0 0 48)) 22 (va_cpy (S 31) (S 22) 0 0 48)), T)) rfl ?_
  exact xj_E.ret rfl rfl rfl rfl (h _ _ rfl)
def f_l_copyFrom23  (S : (Nat → Nat → Int32)) : Int32 × (Nat → Nat → Int32) := (0, (xj_setA (xj_setA (xj_set (xj_setA (xj_setA (xj_setA (xj_setA (xj_setA (xj_setA (xj_set (xj_set S 23 0 (S 14 0)) 23 1 (S 14 1)) 24 (va_cpy (S 15) (S 24) 0 0 40)) 25 (va_cpy (S 16) (S 25) 0 0 40)) 26 (va_cpy (S 17) (S 26) 0 0 40)) 27 (va_cpy (S 18) (S 27) 0 0 40)) 28 (va_cpy (S 19) (S 28) 0 0 40)) 29 (va_cpy (S 20) (S 29) 0 0 4)) 23 8 (S 14 8)) 30 (va_cpy (S 21) (S 30) 0 0 48)) 31 (va_cpy (S 22) (S 31) 0 0 48)))
def d_l_copyFrom23  (S : (Nat → Nat → Int32)) : Prop := True
seal f_l_copyFrom23 d_l_copyFrom23
set_option maxHeartbeats 4000000 in
set_option maxRecDepth 100000 in
theorem ok_l_copyFrom23 {L : Nat} {xs : Nat → Int32} {T : Nat → Nat → Int64} {D : Nat} {S : (Nat → Nat → Int32)} {P : (Option Value ⊕ Nat) → xj_W → Nat → Nat → Prop} (hD : 0 ≤ D) (hd : d_l_copyFrom23  S) (h : ∀ v S9, (v, S9) = f_l_copyFrom23  S → P (.inl none) (SH, S9, T) 0 0) : xj_E (xX L xs) D 9 0 [(0, .ref 23), (1, .ref 14)] [] (SH, S, T) P := by
  unfold d_l_copyFrom23 at hd
  unfold f_l_copyFrom23 at h
  refine xj_E.adv 16 (pc' := 31) (ls' := [(0, .ref 23), (1, .ref 14)]) (st' := []) (w' := (SH, (xj_setA (xj_set (xj_set S 23 0 (S 14 0)) 23 1 (S 14 1)) 24 (va_cpy (S 15) (S 24) 0 0 40)), T)) rfl ?_
  refine xj_E.adv 8 (pc' := 46) (ls' := [(0, .ref 23), (1, .ref 14)]) (st' := []) (w' := (SH, (xj_setA (xj_setA (xj_set (xj_set S 23 0 (S 14 0)) 23 1 (S 14 1)) 24 (va_cpy (S 15) (S 24) 0 0 40)) 25 (va_cpy (S 16) (S 25) 0 0 40)), T)) rfl ?_
  refine xj_E.adv 8 (pc' := 61) (ls' := [(0, .ref 23), (1, .ref 14)]) (st' := []) (w' := (SH, (xj_setA (xj_setA (xj_setA (xj_set (xj_set S 23 0 (S 14 0)) 23 1 (S 14 1)) 24 (va_cpy (S 15) (S 24) 0 0 40)) 25 (va_cpy (S 16) (S 25) 0 0 40)) 26 (va_cpy (S 17) (S 26) 0 0 40)), T)) rfl ?_
  refine xj_E.adv 8 (pc' := 76) (ls' := [(0, .ref 23), (1, .ref 14)]) (st' := []) (w' := (SH, (xj_setA (xj_setA (xj_setA (xj_setA (xj_set (xj_set S 23 0 (S 14 0)) 23 1 (S 14 1)) 24 (va_cpy (S 15) (S 24) 0 0 40)) 25 (va_cpy (S 16) (S 25) 0 0 40)) 26 (va_cpy (S 17) (S 26) 0 0 40)) 27 (va_cpy (S 18) (S 27) 0 0 40)), T)) rfl ?_
  refine xj_E.adv 8 (pc' := 91) (ls' := [(0, .ref 23), (1, .ref 14)]) (st' := []) (w' := (SH, (xj_setA (xj_setA (xj_setA (xj_setA (xj_setA (xj_set (xj_set S 23 0 (S 14 0)) 23 1 (S 14 1)) 24 (va_cpy (S 15) (S 24) 0 0 40)) 25 (va_cpy (S 16) (S 25) 0 0 40)) 26 (va_cpy (S 17) (S 26) 0 0 40)) 27 (va_cpy (S 18) (S 27) 0 0 40)) 28 (va_cpy (S 19) (S 28) 0 0 40)), T)) rfl ?_
  refine xj_E.adv 8 (pc' := 105) (ls' := [(0, .ref 23), (1, .ref 14)]) (st' := []) (w' := (SH, (xj_setA (xj_setA (xj_setA (xj_setA (xj_setA (xj_setA (xj_set (xj_set S 23 0 (S 14 0)) 23 1 (S 14 1)) 24 (va_cpy (S 15) (S 24) 0 0 40)) 25 (va_cpy (S 16) (S 25) 0 0 40)) 26 (va_cpy (S 17) (S 26) 0 0 40)) 27 (va_cpy (S 18) (S 27) 0 0 40)) 28 (va_cpy (S 19) (S 28) 0 0 40)) 29 (va_cpy (S 20) (S 29) 0 0 4)), T)) rfl ?_
  refine xj_E.adv 12 (pc' := 128) (ls' := [(0, .ref 23), (1, .ref 14)]) (st' := []) (w' := (SH, (xj_setA (xj_set (xj_setA (xj_setA (xj_setA (xj_setA (xj_setA (xj_setA (xj_set (xj_set S 23 0 (S 14 0)) 23 1 (S 14 1)) 24 (va_cpy (S 15) (S 24) 0 0 40)) 25 (va_cpy (S 16) (S 25) 0 0 40)) 26 (va_cpy (S 17) (S 26) 0 0 40)) 27 (va_cpy (S 18) (S 27) 0 0 40)) 28 (va_cpy (S 19) (S 28) 0 0 40)) 29 (va_cpy (S 20) (S 29) 0 0 4)) 23 8 (S 14 8)) 30 (va_cpy (S 21) (S 30) 0 0 48)), T)) rfl ?_
  refine xj_E.adv 8 (pc' := 143) (ls' := [(0, .ref 23), (1, .ref 14)]) (st' := []) (w' := (SH, (xj_setA (xj_setA (xj_set (xj_setA (xj_setA (xj_setA (xj_setA (xj_setA (xj_setA (xj_set (xj_set S 23 0 (S 14 0)) 23 1 (S 14 1)) 24 (va_cpy (S 15) (S 24) 0 0 40)) 25 (va_cpy (S 16) (S 25) 0 0 40)) 26 (va_cpy (S 17) (S 26) 0 0 40)) 27 (va_cpy (S 18) (S 27) 0 0 40)) 28 (va_cpy (S 19) (S 28) 0 0 40)) 29 (va_cpy (S 20) (S 29) 0 0 4)) 23 8 (S 14 8)) 30 (va_cpy (S 21) (S 30) 0 0 48)) 31 (va_cpy (S 22) (S 31) 0 0 48)), T)) rfl ?_
  exact xj_E.ret rfl rfl rfl rfl (h _ _ rfl)
def f_l_add (a : Int32) (b : Int32) (S : (Nat → Nat → Int32)) : Int32 × (Nat → Nat → Int32) := (((S 14 1) + 1) - 1, (xj_set (xj_set (xj_set S 15 (S 14 1).toNatClampNeg a) 16 (S 14 1).toNatClampNeg b) 14 1 ((S 14 1) + 1)))
def d_l_add (a : Int32) (b : Int32) (S : (Nat → Nat → Int32)) : Prop := vp_in (S 14 1) 40 ∧ (vp_in (S 14 1) 40 ∧ (True))
seal f_l_add d_l_add
set_option maxHeartbeats 4000000 in
set_option maxRecDepth 100000 in
theorem ok_l_add {L : Nat} {xs : Nat → Int32} {T : Nat → Nat → Int64} {D : Nat} {S : (Nat → Nat → Int32)} {P : (Option Value ⊕ Nat) → xj_W → Nat → Nat → Prop} {a b : Int32} (hD : 0 ≤ D) (hd : d_l_add a b S) (h : ∀ v S9, (v, S9) = f_l_add a b S → P (.inl (some (.int v))) (SH, S9, T) 0 0) : xj_E (xX L xs) D 7 0 [(0, .ref 14), (1, .int a), (2, .int b)] [] (SH, S, T) P := by
  unfold d_l_add at hd
  unfold f_l_add at h
  refine xj_E.adv 5 (pc' := 9) (ls' := [(0, .ref 14), (1, .int a), (2, .int b)]) (st' := [.int a, .int (S 14 1), .ref 15]) (w' := (SH, S, T)) rfl ?_
  refine xj_E.iast rfl rfl hd.1 ?_
  have hd := hd.2
  refine xj_E.adv 5 (pc' := 19) (ls' := [(0, .ref 14), (1, .int a), (2, .int b)]) (st' := [.int b, .int (S 14 1), .ref 16]) (w' := (SH, (xj_set S 15 (S 14 1).toNatClampNeg a), T)) rfl ?_
  refine xj_E.iast rfl rfl hd.1 ?_
  have hd := hd.2
  refine xj_E.adv 10 (pc' := 36) (ls' := [(0, .ref 14), (1, .int a), (2, .int b)]) (st' := [.int (((S 14 1) + 1) - 1)]) (w' := (SH, (xj_set (xj_set (xj_set S 15 (S 14 1).toNatClampNeg a) 16 (S 14 1).toNatClampNeg b) 14 1 ((S 14 1) + 1)), T)) rfl ?_
  exact xj_E.ret rfl rfl rfl rfl (h _ _ rfl)
def f_l_note (a : Int32) (b : Int32) (S : (Nat → Nat → Int32)) : Int32 × (Nat → Nat → Int32) := (0, (xj_set (xj_set (xj_set (xj_set (xj_set S 17 a.toNatClampNeg (xst b.toNatClampNeg)) 18 a.toNatClampNeg ((S 18 a.toNatClampNeg) + 1)) 21 (r_f_floorMod S (S 14 8) 48).toNatClampNeg a) 22 (r_f_floorMod S (S 14 8) 48).toNatClampNeg b) 14 8 ((S 14 8) + 1)))
def d_l_note (a : Int32) (b : Int32) (S : (Nat → Nat → Int32)) : Prop := d_f_floorMod S (S 14 8) 48 ∧ (vp_in b 10 ∧ (vp_in a 40 ∧ (vp_in a 40 ∧ (vp_in a 40 ∧ (vp_in (r_f_floorMod S (S 14 8) 48) 48 ∧ (vp_in (r_f_floorMod S (S 14 8) 48) 48 ∧ (True)))))))
seal f_l_note d_l_note
set_option maxHeartbeats 4000000 in
set_option maxRecDepth 100000 in
theorem ok_l_note {L : Nat} {xs : Nat → Int32} {T : Nat → Nat → Int64} {D : Nat} {S : (Nat → Nat → Int32)} {P : (Option Value ⊕ Nat) → xj_W → Nat → Nat → Prop} {a b : Int32} (hD : 1 ≤ D) (hd : d_l_note a b S) (h : ∀ v S9, (v, S9) = f_l_note a b S → P (.inl none) (SH, S9, T) 0 0) : xj_E (xX L xs) D 8 0 [(0, .ref 14), (1, .int a), (2, .int b)] [] (SH, S, T) P := by
  unfold d_l_note at hd
  unfold f_l_note at h
  obtain ⟨D1, rfl⟩ : ∃ D1, D = D1 + 1 := ⟨D - 1, by omega⟩
  refine xj_E.adv 3 (pc' := 6) (ls' := [(0, .ref 14), (1, .int a), (2, .int b)]) (st' := [.int 48, .int (S 14 8)]) (w' := (SH, S, T)) rfl ?_
  refine xj_E.calli (d := D1) (S := SH) rfl rfl rfl rfl rfl (xj_E.deep (ok_f_floorMod (d := 0) hd.1 ?_) (by omega))
  intro v e
  subst e
  refine ⟨_, _, _, rfl, rfl, rfl, rfl, ?_⟩
  have hd := hd.2
  refine xj_E.adv 6 (pc' := 19) (ls' := [(3, .int (r_f_floorMod S (S 14 8) 48)), (0, .ref 14), (1, .int a), (2, .int b)]) (st' := [.int b, .ref 1001, .int a, .ref 17]) (w' := (SH, S, T)) rfl ?_
  refine xj_E.igiv rfl rfl rfl hd.1 ?_
  have hd := hd.2
  refine xj_E.iast rfl rfl hd.1 ?_
  have hd := hd.2
  refine xj_E.adv 4 (pc' := 27) (ls' := [(3, .int (r_f_floorMod S (S 14 8) 48)), (0, .ref 14), (1, .int a), (2, .int b)]) (st' := [.int a, .ref 18, .int a, .ref 18]) (w' := (SH, (xj_set S 17 a.toNatClampNeg (xst b.toNatClampNeg)), T)) rfl ?_
  refine xj_E.iald rfl rfl hd.1 ?_
  have hd := hd.2
  refine xj_E.adv 2 (pc' := 30) (ls' := [(3, .int (r_f_floorMod S (S 14 8) 48)), (0, .ref 14), (1, .int a), (2, .int b)]) (st' := [.int ((S 18 a.toNatClampNeg) + 1), .int a, .ref 18]) (w' := (SH, (xj_set S 17 a.toNatClampNeg (xst b.toNatClampNeg)), T)) rfl ?_
  refine xj_E.iast rfl rfl hd.1 ?_
  have hd := hd.2
  refine xj_E.adv 4 (pc' := 37) (ls' := [(3, .int (r_f_floorMod S (S 14 8) 48)), (0, .ref 14), (1, .int a), (2, .int b)]) (st' := [.int a, .int (r_f_floorMod S (S 14 8) 48), .ref 21]) (w' := (SH, (xj_set (xj_set S 17 a.toNatClampNeg (xst b.toNatClampNeg)) 18 a.toNatClampNeg ((S 18 a.toNatClampNeg) + 1)), T)) rfl ?_
  refine xj_E.iast rfl rfl hd.1 ?_
  have hd := hd.2
  refine xj_E.adv 4 (pc' := 44) (ls' := [(3, .int (r_f_floorMod S (S 14 8) 48)), (0, .ref 14), (1, .int a), (2, .int b)]) (st' := [.int b, .int (r_f_floorMod S (S 14 8) 48), .ref 22]) (w' := (SH, (xj_set (xj_set (xj_set S 17 a.toNatClampNeg (xst b.toNatClampNeg)) 18 a.toNatClampNeg ((S 18 a.toNatClampNeg) + 1)) 21 (r_f_floorMod S (S 14 8) 48).toNatClampNeg a), T)) rfl ?_
  refine xj_E.iast rfl rfl hd.1 ?_
  have hd := hd.2
  refine xj_E.adv 6 (pc' := 55) (ls' := [(3, .int (r_f_floorMod S (S 14 8) 48)), (0, .ref 14), (1, .int a), (2, .int b)]) (st' := []) (w' := (SH, (xj_set (xj_set (xj_set (xj_set (xj_set S 17 a.toNatClampNeg (xst b.toNatClampNeg)) 18 a.toNatClampNeg ((S 18 a.toNatClampNeg) + 1)) 21 (r_f_floorMod S (S 14 8) 48).toNatClampNeg a) 22 (r_f_floorMod S (S 14 8) 48).toNatClampNeg b) 14 8 ((S 14 8) + 1)), T)) rfl ?_
  exact xj_E.ret rfl rfl rfl rfl (h _ _ rfl)
def f_p_addItem (a : Int32) (b : Int32) (c : Int32) (S : (Nat → Nat → Int32)) : Int32 × (Nat → Nat → Int32) := (((S 1 0) + 1) - 1, (xj_set (xj_set (xj_set (xj_set S 2 (S 1 0).toNatClampNeg a) 3 (S 1 0).toNatClampNeg b) 4 (S 1 0).toNatClampNeg c) 1 0 ((S 1 0) + 1)))
def d_p_addItem (a : Int32) (b : Int32) (c : Int32) (S : (Nat → Nat → Int32)) : Prop := vp_in (S 1 0) 12 ∧ (vp_in (S 1 0) 12 ∧ (vp_in (S 1 0) 12 ∧ (True)))
seal f_p_addItem d_p_addItem
set_option maxHeartbeats 4000000 in
set_option maxRecDepth 100000 in
theorem ok_p_addItem {L : Nat} {xs : Nat → Int32} {T : Nat → Nat → Int64} {D : Nat} {S : (Nat → Nat → Int32)} {P : (Option Value ⊕ Nat) → xj_W → Nat → Nat → Prop} {a b c : Int32} (hD : 0 ≤ D) (hd : d_p_addItem a b c S) (h : ∀ v S9, (v, S9) = f_p_addItem a b c S → P (.inl (some (.int v))) (SH, S9, T) 0 0) : xj_E (xX L xs) D 16 0 [(0, .ref 1), (1, .int a), (2, .int b), (3, .int c)] [] (SH, S, T) P := by
  unfold d_p_addItem at hd
  unfold f_p_addItem at h
  refine xj_E.adv 5 (pc' := 9) (ls' := [(0, .ref 1), (1, .int a), (2, .int b), (3, .int c)]) (st' := [.int a, .int (S 1 0), .ref 2]) (w' := (SH, S, T)) rfl ?_
  refine xj_E.iast rfl rfl hd.1 ?_
  have hd := hd.2
  refine xj_E.adv 5 (pc' := 19) (ls' := [(0, .ref 1), (1, .int a), (2, .int b), (3, .int c)]) (st' := [.int b, .int (S 1 0), .ref 3]) (w' := (SH, (xj_set S 2 (S 1 0).toNatClampNeg a), T)) rfl ?_
  refine xj_E.iast rfl rfl hd.1 ?_
  have hd := hd.2
  refine xj_E.adv 5 (pc' := 29) (ls' := [(0, .ref 1), (1, .int a), (2, .int b), (3, .int c)]) (st' := [.int c, .int (S 1 0), .ref 4]) (w' := (SH, (xj_set (xj_set S 2 (S 1 0).toNatClampNeg a) 3 (S 1 0).toNatClampNeg b), T)) rfl ?_
  refine xj_E.iast rfl rfl hd.1 ?_
  have hd := hd.2
  refine xj_E.adv 10 (pc' := 46) (ls' := [(0, .ref 1), (1, .int a), (2, .int b), (3, .int c)]) (st' := [.int (((S 1 0) + 1) - 1)]) (w' := (SH, (xj_set (xj_set (xj_set (xj_set S 2 (S 1 0).toNatClampNeg a) 3 (S 1 0).toNatClampNeg b) 4 (S 1 0).toNatClampNeg c) 1 0 ((S 1 0) + 1)), T)) rfl ?_
  exact xj_E.ret rfl rfl rfl rfl (h _ _ rfl)
def fk_p_addSentry : Nat → (Int32 → Int32 → Int32 → (Nat → Nat → Int32) → (Int32 × (Nat → Nat → Int32)))
  | 0 => (fun _ _ _ S => (0, S))
  | n + 1 => (fun u1 u3 u4 S => if 2 ≤ u4 then ((u3, (xj_set S 1 5 ((S 1 5) + 1)))) else (fk_p_addSentry n u1 u3 (u4 + 1) (xj_set S 5 u1.toNatClampNeg ((S 5 u1.toNatClampNeg) ||| (r_p_partBit S u3 u4)))))
def dk_p_addSentry : Nat → (Int32 → Int32 → Int32 → (Nat → Nat → Int32) → Prop)
  | 0 => (fun _ _ _ S => False)
  | n + 1 => (fun u1 u3 u4 S => (2 ≤ u4 → (True)) ∧ (¬ (2 ≤ u4) → (vp_in u1 12 ∧ (d_p_partBit S u3 u4 ∧ (vp_in u1 12 ∧ (dk_p_addSentry n u1 u3 (u4 + 1) (xj_set S 5 u1.toNatClampNeg ((S 5 u1.toNatClampNeg) ||| (r_p_partBit S u3 u4)))))))))
set_option maxHeartbeats 4000000 in
set_option maxRecDepth 100000 in
theorem okk_p_addSentry {L : Nat} {xs : Nat → Int32} {T : Nat → Nat → Int64} (n : Nat) : (∀ (u1 : Int32) (u3 : Int32) (u4 : Int32) S D (P : (Option Value ⊕ Nat) → xj_W → Nat → Nat → Prop), 1 + n ≤ D → dk_p_addSentry n u1 u3 u4 S → (∀ v S9, (v, S9) = fk_p_addSentry n u1 u3 u4 S → P (.inl (some (.int v))) (SH, S9, T) 0 0) → xj_E (xX L xs) D 18 29 [(0, .ref 1), (1, .int u1), (3, .int u3), (4, .int u4)] [] (SH, S, T) P) := by
  induction n with
  | zero => exact fun _ _ _ _ _ _ _ hd _ => hd.elim
  | succ n ih =>
    refine ?_
    · intro u1 u3 u4 S D P hD hd h
      obtain ⟨D1, rfl⟩ : ∃ D1, D = D1 + 1 := ⟨D - 1, by omega⟩
      refine xj_E.adv 3 (pc' := (if xj_cmp .ge u4 2 = true then 56 else 35)) (ls' := [(0, .ref 1), (1, .int u1), (3, .int u3), (4, .int u4)]) (st' := []) (w' := (SH, S, T)) rfl ?_
      refine xj_E.b_ge (fun q => ?_) (fun q => ?_)
      · have hd := hd.1 q
        have h := fun v S9 e => h v S9 (Eq.trans e (if_pos q).symm)
        refine xj_E.adv 7 (pc' := 67) (ls' := [(0, .ref 1), (1, .int u1), (3, .int u3), (4, .int u4)]) (st' := [.int u3]) (w' := (SH, (xj_set S 1 5 ((S 1 5) + 1)), T)) rfl ?_
        exact xj_E.ret rfl rfl rfl rfl (h _ _ rfl)
      · have hd := hd.2 q
        have h := fun v S9 e => h v S9 (Eq.trans e (if_neg q).symm)
        refine xj_E.adv 4 (pc' := 41) (ls' := [(0, .ref 1), (1, .int u1), (3, .int u3), (4, .int u4)]) (st' := [.int u1, .ref 5, .int u1, .ref 5]) (w' := (SH, S, T)) rfl ?_
        refine xj_E.iald rfl rfl hd.1 ?_
        have hd := hd.2
        refine xj_E.adv 2 (pc' := 45) (ls' := [(0, .ref 1), (1, .int u1), (3, .int u3), (4, .int u4)]) (st' := [.int u4, .int u3, .int (S 5 u1.toNatClampNeg), .int u1, .ref 5]) (w' := (SH, S, T)) rfl ?_
        refine xj_E.calli (d := D1) (S := SH) rfl rfl rfl rfl rfl (xj_E.deep (ok_p_partBit (d := 0) hd.1 ?_) (by omega))
        intro v e
        subst e
        refine ⟨_, _, _, rfl, rfl, rfl, rfl, ?_⟩
        have hd := hd.2
        refine xj_E.adv 1 (pc' := 49) (ls' := [(0, .ref 1), (1, .int u1), (3, .int u3), (4, .int u4)]) (st' := [.int ((S 5 u1.toNatClampNeg) ||| (r_p_partBit S u3 u4)), .int u1, .ref 5]) (w' := (SH, S, T)) rfl ?_
        refine xj_E.iast rfl rfl hd.1 ?_
        have hd := hd.2
        refine xj_E.adv 2 (pc' := 29) (ls' := [(4, .int (u4 + 1)), (0, .ref 1), (1, .int u1), (3, .int u3)]) (st' := []) (w' := (SH, (xj_set S 5 u1.toNatClampNeg ((S 5 u1.toNatClampNeg) ||| (r_p_partBit S u3 u4))), T)) rfl ?_
        refine xj_E.loc [0, 1, 3, 4] xhth rfl (show xj_E (xX L xs) (D1 + 1) 18 29 [(0, .ref 1), (1, .int u1), (3, .int u3), (4, .int (u4 + 1))] [] (SH, (xj_set S 5 u1.toNatClampNeg ((S 5 u1.toNatClampNeg) ||| (r_p_partBit S u3 u4))), T) P from ?_)
        exact (ih) _ _ _ _ _ _ (by omega) hd h
def f_p_addSentry (a : Int32) (b : Int32) (S : (Nat → Nat → Int32)) : Int32 × (Nat → Nat → Int32) := fk_p_addSentry 200 a (S 1 5) 0 (xj_set (xj_set (xj_set S 6 (S 1 5).toNatClampNeg a) 7 (S 1 5).toNatClampNeg (b &&& 1)) 11 (S 1 5).toNatClampNeg (-1))
def d_p_addSentry (a : Int32) (b : Int32) (S : (Nat → Nat → Int32)) : Prop := vp_in (S 1 5) 16 ∧ (vp_in (S 1 5) 16 ∧ (vp_in (S 1 5) 16 ∧ (dk_p_addSentry 200 a (S 1 5) 0 (xj_set (xj_set (xj_set S 6 (S 1 5).toNatClampNeg a) 7 (S 1 5).toNatClampNeg (b &&& 1)) 11 (S 1 5).toNatClampNeg (-1)))))
seal f_p_addSentry d_p_addSentry
set_option maxHeartbeats 4000000 in
set_option maxRecDepth 100000 in
theorem ok_p_addSentry {L : Nat} {xs : Nat → Int32} {T : Nat → Nat → Int64} {D : Nat} {S : (Nat → Nat → Int32)} {P : (Option Value ⊕ Nat) → xj_W → Nat → Nat → Prop} {a b : Int32} (hD : 201 ≤ D) (hd : d_p_addSentry a b S) (h : ∀ v S9, (v, S9) = f_p_addSentry a b S → P (.inl (some (.int v))) (SH, S9, T) 0 0) : xj_E (xX L xs) D 18 0 [(0, .ref 1), (1, .int a), (2, .int b)] [] (SH, S, T) P := by
  unfold d_p_addSentry at hd
  unfold f_p_addSentry at h
  refine xj_E.adv 7 (pc' := 11) (ls' := [(3, .int (S 1 5)), (0, .ref 1), (1, .int a), (2, .int b)]) (st' := [.int a, .int (S 1 5), .ref 6]) (w' := (SH, S, T)) rfl ?_
  refine xj_E.iast rfl rfl hd.1 ?_
  have hd := hd.2
  refine xj_E.adv 4 (pc' := 18) (ls' := [(3, .int (S 1 5)), (0, .ref 1), (1, .int a), (2, .int b)]) (st' := [.int b, .int (S 1 5), .ref 7]) (w' := (SH, (xj_set S 6 (S 1 5).toNatClampNeg a), T)) rfl ?_
  refine xj_E.bast rfl rfl hd.1 ?_
  have hd := hd.2
  refine xj_E.adv 4 (pc' := 25) (ls' := [(3, .int (S 1 5)), (0, .ref 1), (1, .int a), (2, .int b)]) (st' := [.int (-1), .int (S 1 5), .ref 11]) (w' := (SH, (xj_set (xj_set S 6 (S 1 5).toNatClampNeg a) 7 (S 1 5).toNatClampNeg (b &&& 1)), T)) rfl ?_
  refine xj_E.iast rfl rfl hd.1 ?_
  have hd := hd.2
  refine xj_E.adv 2 (pc' := 29) (ls' := [(4, .int 0), (3, .int (S 1 5)), (0, .ref 1), (1, .int a), (2, .int b)]) (st' := []) (w' := (SH, (xj_set (xj_set (xj_set S 6 (S 1 5).toNatClampNeg a) 7 (S 1 5).toNatClampNeg (b &&& 1)) 11 (S 1 5).toNatClampNeg (-1)), T)) rfl ?_
  refine xj_E.loc [0, 1, 3, 4] xhth rfl (show xj_E (xX L xs) D 18 29 [(0, .ref 1), (1, .int a), (3, .int (S 1 5)), (4, .int 0)] [] (SH, (xj_set (xj_set (xj_set S 6 (S 1 5).toNatClampNeg a) 7 (S 1 5).toNatClampNeg (b &&& 1)) 11 (S 1 5).toNatClampNeg (-1)), T) P from ?_)
  exact ((okk_p_addSentry 200)) _ _ _ _ _ _ (by omega) hd h
def f_p_addPart (a : Int32) (b : Int32) (c : Int32) (S : (Nat → Nat → Int32)) : Int32 × (Nat → Nat → Int32) := if b < 100 then (((xj_set (xj_set (xj_set S 9 ((a * 2) + (S 8 a.toNatClampNeg)).toNatClampNeg b) 10 ((a * 2) + (S 8 a.toNatClampNeg)).toNatClampNeg c) 8 a.toNatClampNeg ((S 8 a.toNatClampNeg) + 1)) 8 a.toNatClampNeg, (xj_set (xj_set (xj_set S 9 ((a * 2) + (S 8 a.toNatClampNeg)).toNatClampNeg b) 10 ((a * 2) + (S 8 a.toNatClampNeg)).toNatClampNeg c) 8 a.toNatClampNeg ((S 8 a.toNatClampNeg) + 1)))) else (((xj_set (xj_set (xj_set S 9 ((a * 2) + (S 8 a.toNatClampNeg)).toNatClampNeg b) 10 ((a * 2) + (S 8 a.toNatClampNeg)).toNatClampNeg (-1)) 8 a.toNatClampNeg ((S 8 a.toNatClampNeg) + 1)) 8 a.toNatClampNeg, (xj_set (xj_set (xj_set S 9 ((a * 2) + (S 8 a.toNatClampNeg)).toNatClampNeg b) 10 ((a * 2) + (S 8 a.toNatClampNeg)).toNatClampNeg (-1)) 8 a.toNatClampNeg ((S 8 a.toNatClampNeg) + 1))))
def d_p_addPart (a : Int32) (b : Int32) (c : Int32) (S : (Nat → Nat → Int32)) : Prop := vp_in a 16 ∧ (vp_in ((a * 2) + (S 8 a.toNatClampNeg)) 32 ∧ ((b < 100 → (vp_in ((a * 2) + (S 8 a.toNatClampNeg)) 32 ∧ (vp_in a 16 ∧ (vp_in a 16 ∧ (vp_in a 16 ∧ (True)))))) ∧ (¬ (b < 100) → (vp_in ((a * 2) + (S 8 a.toNatClampNeg)) 32 ∧ (vp_in a 16 ∧ (vp_in a 16 ∧ (vp_in a 16 ∧ (True))))))))
seal f_p_addPart d_p_addPart
set_option maxHeartbeats 4000000 in
set_option maxRecDepth 100000 in
theorem ok_p_addPart {L : Nat} {xs : Nat → Int32} {T : Nat → Nat → Int64} {D : Nat} {S : (Nat → Nat → Int32)} {P : (Option Value ⊕ Nat) → xj_W → Nat → Nat → Prop} {a b c : Int32} (hD : 0 ≤ D) (hd : d_p_addPart a b c S) (h : ∀ v S9, (v, S9) = f_p_addPart a b c S → P (.inl (some (.int v))) (SH, S9, T) 0 0) : xj_E (xX L xs) D 22 0 [(0, .ref 1), (1, .int a), (2, .int b), (3, .int c)] [] (SH, S, T) P := by
  unfold d_p_addPart at hd
  unfold f_p_addPart at h
  refine xj_E.adv 6 (pc' := 8) (ls' := [(0, .ref 1), (1, .int a), (2, .int b), (3, .int c)]) (st' := [.int a, .ref 8, .int (a * 2)]) (w' := (SH, S, T)) rfl ?_
  refine xj_E.iald rfl rfl hd.1 ?_
  have hd := hd.2
  refine xj_E.adv 6 (pc' := 19) (ls' := [(4, .int ((a * 2) + (S 8 a.toNatClampNeg))), (0, .ref 1), (1, .int a), (2, .int b), (3, .int c)]) (st' := [.int b, .int ((a * 2) + (S 8 a.toNatClampNeg)), .ref 9]) (w' := (SH, S, T)) rfl ?_
  refine xj_E.iast rfl rfl hd.1 ?_
  have hd := hd.2
  refine xj_E.adv 6 (pc' := (if xj_cmp .lt b 100 = true then 36 else 32)) (ls' := [(4, .int ((a * 2) + (S 8 a.toNatClampNeg))), (0, .ref 1), (1, .int a), (2, .int b), (3, .int c)]) (st' := [.int ((a * 2) + (S 8 a.toNatClampNeg)), .ref 10]) (w' := (SH, (xj_set S 9 ((a * 2) + (S 8 a.toNatClampNeg)).toNatClampNeg b), T)) rfl ?_
  refine xj_E.b_lt (fun q => ?_) (fun q => ?_)
  · have hd := hd.1 q
    have h := fun v S9 e => h v S9 (Eq.trans e (if_pos q).symm)
    refine xj_E.adv 1 (pc' := 37) (ls' := [(4, .int ((a * 2) + (S 8 a.toNatClampNeg))), (0, .ref 1), (1, .int a), (2, .int b), (3, .int c)]) (st' := [.int c, .int ((a * 2) + (S 8 a.toNatClampNeg)), .ref 10]) (w' := (SH, (xj_set S 9 ((a * 2) + (S 8 a.toNatClampNeg)).toNatClampNeg b), T)) rfl ?_
    refine xj_E.iast rfl rfl hd.1 ?_
    have hd := hd.2
    refine xj_E.adv 4 (pc' := 44) (ls' := [(4, .int ((a * 2) + (S 8 a.toNatClampNeg))), (0, .ref 1), (1, .int a), (2, .int b), (3, .int c)]) (st' := [.int a, .ref 8, .int a, .ref 8]) (w' := (SH, (xj_set (xj_set S 9 ((a * 2) + (S 8 a.toNatClampNeg)).toNatClampNeg b) 10 ((a * 2) + (S 8 a.toNatClampNeg)).toNatClampNeg c), T)) rfl ?_
    refine xj_E.iald rfl rfl hd.1 ?_
    have hd := hd.2
    refine xj_E.adv 2 (pc' := 47) (ls' := [(4, .int ((a * 2) + (S 8 a.toNatClampNeg))), (0, .ref 1), (1, .int a), (2, .int b), (3, .int c)]) (st' := [.int ((S 8 a.toNatClampNeg) + 1), .int a, .ref 8]) (w' := (SH, (xj_set (xj_set S 9 ((a * 2) + (S 8 a.toNatClampNeg)).toNatClampNeg b) 10 ((a * 2) + (S 8 a.toNatClampNeg)).toNatClampNeg c), T)) rfl ?_
    refine xj_E.iast rfl rfl hd.1 ?_
    have hd := hd.2
    refine xj_E.adv 3 (pc' := 53) (ls' := [(4, .int ((a * 2) + (S 8 a.toNatClampNeg))), (0, .ref 1), (1, .int a), (2, .int b), (3, .int c)]) (st' := [.int a, .ref 8]) (w' := (SH, (xj_set (xj_set (xj_set S 9 ((a * 2) + (S 8 a.toNatClampNeg)).toNatClampNeg b) 10 ((a * 2) + (S 8 a.toNatClampNeg)).toNatClampNeg c) 8 a.toNatClampNeg ((S 8 a.toNatClampNeg) + 1)), T)) rfl ?_
    refine xj_E.iald rfl rfl hd.1 ?_
    have hd := hd.2
    exact xj_E.ret rfl rfl rfl rfl (h _ _ rfl)
  · have hd := hd.2 q
    have h := fun v S9 e => h v S9 (Eq.trans e (if_neg q).symm)
    refine xj_E.adv 2 (pc' := 37) (ls' := [(4, .int ((a * 2) + (S 8 a.toNatClampNeg))), (0, .ref 1), (1, .int a), (2, .int b), (3, .int c)]) (st' := [.int (-1), .int ((a * 2) + (S 8 a.toNatClampNeg)), .ref 10]) (w' := (SH, (xj_set S 9 ((a * 2) + (S 8 a.toNatClampNeg)).toNatClampNeg b), T)) rfl ?_
    refine xj_E.iast rfl rfl hd.1 ?_
    have hd := hd.2
    refine xj_E.adv 4 (pc' := 44) (ls' := [(4, .int ((a * 2) + (S 8 a.toNatClampNeg))), (0, .ref 1), (1, .int a), (2, .int b), (3, .int c)]) (st' := [.int a, .ref 8, .int a, .ref 8]) (w' := (SH, (xj_set (xj_set S 9 ((a * 2) + (S 8 a.toNatClampNeg)).toNatClampNeg b) 10 ((a * 2) + (S 8 a.toNatClampNeg)).toNatClampNeg (-1)), T)) rfl ?_
    refine xj_E.iald rfl rfl hd.1 ?_
    have hd := hd.2
    refine xj_E.adv 2 (pc' := 47) (ls' := [(4, .int ((a * 2) + (S 8 a.toNatClampNeg))), (0, .ref 1), (1, .int a), (2, .int b), (3, .int c)]) (st' := [.int ((S 8 a.toNatClampNeg) + 1), .int a, .ref 8]) (w' := (SH, (xj_set (xj_set S 9 ((a * 2) + (S 8 a.toNatClampNeg)).toNatClampNeg b) 10 ((a * 2) + (S 8 a.toNatClampNeg)).toNatClampNeg (-1)), T)) rfl ?_
    refine xj_E.iast rfl rfl hd.1 ?_
    have hd := hd.2
    refine xj_E.adv 3 (pc' := 53) (ls' := [(4, .int ((a * 2) + (S 8 a.toNatClampNeg))), (0, .ref 1), (1, .int a), (2, .int b), (3, .int c)]) (st' := [.int a, .ref 8]) (w' := (SH, (xj_set (xj_set (xj_set S 9 ((a * 2) + (S 8 a.toNatClampNeg)).toNatClampNeg b) 10 ((a * 2) + (S 8 a.toNatClampNeg)).toNatClampNeg (-1)) 8 a.toNatClampNeg ((S 8 a.toNatClampNeg) + 1)), T)) rfl ?_
    refine xj_E.iald rfl rfl hd.1 ?_
    have hd := hd.2
    exact xj_E.ret rfl rfl rfl rfl (h _ _ rfl)
def f_p_putIfPart (a : Int32) (b : Int32) (c : Int32) (d : Int32) (S : (Nat → Nat → Int32)) : Int32 × (Nat → Nat → Int32) := (0, (xj_set (xj_set (xj_set S 12 a.toNatClampNeg b) 11 a.toNatClampNeg c) 13 a.toNatClampNeg d))
def d_p_putIfPart (a : Int32) (b : Int32) (c : Int32) (d : Int32) (S : (Nat → Nat → Int32)) : Prop := vp_in a 16 ∧ (vp_in a 16 ∧ (vp_in a 16 ∧ (True)))
seal f_p_putIfPart d_p_putIfPart
set_option maxHeartbeats 4000000 in
set_option maxRecDepth 100000 in
theorem ok_p_putIfPart {L : Nat} {xs : Nat → Int32} {T : Nat → Nat → Int64} {D : Nat} {S : (Nat → Nat → Int32)} {P : (Option Value ⊕ Nat) → xj_W → Nat → Nat → Prop} {a b c d : Int32} (hD : 0 ≤ D) (hd : d_p_putIfPart a b c d S) (h : ∀ v S9, (v, S9) = f_p_putIfPart a b c d S → P (.inl none) (SH, S9, T) 0 0) : xj_E (xX L xs) D 23 0 [(0, .ref 1), (1, .int a), (2, .int b), (3, .int c), (4, .int d)] [] (SH, S, T) P := by
  unfold d_p_putIfPart at hd
  unfold f_p_putIfPart at h
  refine xj_E.adv 4 (pc' := 6) (ls' := [(0, .ref 1), (1, .int a), (2, .int b), (3, .int c), (4, .int d)]) (st' := [.int b, .int a, .ref 12]) (w' := (SH, S, T)) rfl ?_
  refine xj_E.iast rfl rfl hd.1 ?_
  have hd := hd.2
  refine xj_E.adv 4 (pc' := 13) (ls' := [(0, .ref 1), (1, .int a), (2, .int b), (3, .int c), (4, .int d)]) (st' := [.int c, .int a, .ref 11]) (w' := (SH, (xj_set S 12 a.toNatClampNeg b), T)) rfl ?_
  refine xj_E.iast rfl rfl hd.1 ?_
  have hd := hd.2
  refine xj_E.adv 4 (pc' := 21) (ls' := [(0, .ref 1), (1, .int a), (2, .int b), (3, .int c), (4, .int d)]) (st' := [.int d, .int a, .ref 13]) (w' := (SH, (xj_set (xj_set S 12 a.toNatClampNeg b) 11 a.toNatClampNeg c), T)) rfl ?_
  refine xj_E.iast rfl rfl hd.1 ?_
  have hd := hd.2
  exact xj_E.ret rfl rfl rfl rfl (h _ _ rfl)
def f_c_openCommand  (S : (Nat → Nat → Int32)) : Int32 × (Nat → Nat → Int32) := match f_l_copyFrom23 S with | (_, S1) => (0, (xj_set (xj_set S1 0 3 0) 0 4 0))
def d_c_openCommand  (S : (Nat → Nat → Int32)) : Prop := d_l_copyFrom23 S ∧ (match f_l_copyFrom23 S with | (_, S1) => True)
seal f_c_openCommand d_c_openCommand
set_option maxHeartbeats 4000000 in
set_option maxRecDepth 100000 in
theorem ok_c_openCommand {L : Nat} {xs : Nat → Int32} {T : Nat → Nat → Int64} {D : Nat} {S : (Nat → Nat → Int32)} {P : (Option Value ⊕ Nat) → xj_W → Nat → Nat → Prop} (hD : 1 ≤ D) (hd : d_c_openCommand  S) (h : ∀ v S9, (v, S9) = f_c_openCommand  S → P (.inl none) (SH, S9, T) 0 0) : xj_E (xX L xs) D 47 0 [(0, .ref 0)] [] (SH, S, T) P := by
  unfold d_c_openCommand at hd
  unfold f_c_openCommand at h
  obtain ⟨D1, rfl⟩ : ∃ D1, D = D1 + 1 := ⟨D - 1, by omega⟩
  refine xj_E.adv 4 (pc' := 8) (ls' := [(0, .ref 0)]) (st' := [.ref 14, .ref 23]) (w' := (SH, S, T)) rfl ?_
  refine xj_E.callv (d := D1) (S := SH) rfl rfl rfl rfl rfl (ok_l_copyFrom23 (by omega) hd.1 ?_)
  intro v1 S1 e1
  refine ⟨_, _, rfl, rfl, rfl, rfl, ?_⟩
  have hd := hd.2
  rw [← e1] at hd h
  refine xj_E.adv 6 (pc' := 21) (ls' := [(0, .ref 0)]) (st' := []) (w' := (SH, (xj_set (xj_set S1 0 3 0) 0 4 0), T)) rfl ?_
  exact xj_E.ret rfl rfl rfl rfl (h _ _ rfl)
def f_c_mark (a : Int32) (b : Int32) (S : (Nat → Nat → Int32)) : Int32 × (Nat → Nat → Int32) := if (r_l_isFinal S a) ≠ 0 then ((0, S)) else ((0, (xj_set S 19 a.toNatClampNeg ((S 19 a.toNatClampNeg) ||| (b &&& (S 5 (S 15 a.toNatClampNeg).toNatClampNeg))))))
def d_c_mark (a : Int32) (b : Int32) (S : (Nat → Nat → Int32)) : Prop := d_l_isFinal S a ∧ (((r_l_isFinal S a) ≠ 0 → (True)) ∧ (¬ ((r_l_isFinal S a) ≠ 0) → (vp_in a 40 ∧ (vp_in a 40 ∧ (vp_in (S 15 a.toNatClampNeg) 12 ∧ (vp_in a 40 ∧ (True)))))))
seal f_c_mark d_c_mark
set_option maxHeartbeats 4000000 in
set_option maxRecDepth 100000 in
theorem ok_c_mark {L : Nat} {xs : Nat → Int32} {T : Nat → Nat → Int64} {D : Nat} {S : (Nat → Nat → Int32)} {P : (Option Value ⊕ Nat) → xj_W → Nat → Nat → Prop} {a b : Int32} (hD : 1 ≤ D) (hd : d_c_mark a b S) (h : ∀ v S9, (v, S9) = f_c_mark a b S → P (.inl none) (SH, S9, T) 0 0) : xj_E (xX L xs) D 61 0 [(0, .ref 0), (1, .int a), (2, .int b)] [] (SH, S, T) P := by
  unfold d_c_mark at hd
  unfold f_c_mark at h
  obtain ⟨D1, rfl⟩ : ∃ D1, D = D1 + 1 := ⟨D - 1, by omega⟩
  refine xj_E.adv 3 (pc' := 5) (ls' := [(0, .ref 0), (1, .int a), (2, .int b)]) (st' := [.int a, .ref 14]) (w' := (SH, S, T)) rfl ?_
  refine xj_E.calli (d := D1) (S := SH) rfl rfl rfl rfl rfl (xj_E.deep (ok_l_isFinal (d := 0) hd.1 ?_) (by omega))
  intro v e
  subst e
  refine ⟨_, _, _, rfl, rfl, rfl, rfl, ?_⟩
  have hd := hd.2
  refine xj_E.adv 1 (pc' := (if xj_cmp .ne (r_l_isFinal S a) 0 = true then 42 else 11)) (ls' := [(0, .ref 0), (1, .int a), (2, .int b)]) (st' := []) (w' := (SH, S, T)) rfl ?_
  refine xj_E.b_ne (fun q => ?_) (fun q => ?_)
  · have hd := hd.1 q
    have h := fun v S9 e => h v S9 (Eq.trans e (if_pos q).symm)
    exact xj_E.ret rfl rfl rfl rfl (h _ _ rfl)
  · have hd := hd.2 q
    have h := fun v S9 e => h v S9 (Eq.trans e (if_neg q).symm)
    refine xj_E.adv 5 (pc' := 20) (ls' := [(0, .ref 0), (1, .int a), (2, .int b)]) (st' := [.int a, .ref 19, .int a, .ref 19]) (w' := (SH, S, T)) rfl ?_
    refine xj_E.iald rfl rfl hd.1 ?_
    have hd := hd.2
    refine xj_E.adv 8 (pc' := 37) (ls' := [(0, .ref 0), (1, .int a), (2, .int b)]) (st' := [.int a, .ref 15, .ref 5, .int b, .int (S 19 a.toNatClampNeg), .int a, .ref 19]) (w' := (SH, S, T)) rfl ?_
    refine xj_E.iald rfl rfl hd.1 ?_
    have hd := hd.2
    refine xj_E.iald rfl rfl hd.1 ?_
    have hd := hd.2
    refine xj_E.adv 2 (pc' := 41) (ls' := [(0, .ref 0), (1, .int a), (2, .int b)]) (st' := [.int ((S 19 a.toNatClampNeg) ||| (b &&& (S 5 (S 15 a.toNatClampNeg).toNatClampNeg))), .int a, .ref 19]) (w' := (SH, S, T)) rfl ?_
    refine xj_E.iast rfl rfl hd.1 ?_
    have hd := hd.2
    exact xj_E.ret rfl rfl rfl rfl (h _ _ rfl)
def f_m_fail (a : Int32) (S : (Nat → Nat → Int32)) : Int32 × (Nat → Nat → Int32) := (0, (xj_set S 32 0 a))
def d_m_fail (a : Int32) (S : (Nat → Nat → Int32)) : Prop := True
seal f_m_fail d_m_fail
set_option maxHeartbeats 4000000 in
set_option maxRecDepth 100000 in
theorem ok_m_fail {L : Nat} {xs : Nat → Int32} {T : Nat → Nat → Int64} {D : Nat} {S : (Nat → Nat → Int32)} {P : (Option Value ⊕ Nat) → xj_W → Nat → Nat → Prop} {a : Int32} (hD : 0 ≤ D) (hd : d_m_fail a S) (h : ∀ v S9, (v, S9) = f_m_fail a S → P (.inl (some (.int v))) (SH, S9, T) 0 0) : xj_E (xX L xs) D 69 0 [(0, .ref 32), (1, .int a)] [] (SH, S, T) P := by
  unfold d_m_fail at hd
  unfold f_m_fail at h
  refine xj_E.adv 4 (pc' := 6) (ls' := [(0, .ref 32), (1, .int a)]) (st' := [.int 0]) (w' := (SH, (xj_set S 32 0 a), T)) rfl ?_
  exact xj_E.ret rfl rfl rfl rfl (h _ _ rfl)
def f_m_item (a : Int32) (b : Int32) (c : Int32) (S : (Nat → Nat → Int32)) : Int32 × (Nat → Nat → Int32) := if (S 32 15) ≠ 0 then (match f_m_fail 1 (xj_set S 32 0 0) with | (v1, S1) => (v1, S1)) else (if (S 32 1) ≠ 12 then (if (r_m_within (xj_set S 32 0 0) a 3) = 0 then (match f_m_fail 2 (xj_set S 32 0 0) with | (v2, S2) => (v2, S2)) else (if (r_m_within (xj_set S 32 0 0) b ((S 32 1) - 1)) = 0 then (match f_m_fail 2 (xj_set S 32 0 0) with | (v3, S3) => (v3, S3)) else (if (r_m_within (xj_set S 32 0 0) c 15) ≠ 0 then (if (S 33 b.toNatClampNeg) ≠ 0 then (match f_m_fail 2 (xj_set S 32 0 0) with | (v4, S4) => (v4, S4)) else (if c ≤ 7 then ((((S 32 1) + 1) - 1, (xj_set (xj_set (xj_set (xj_set (xj_set S 32 0 0) 33 (S 32 1).toNatClampNeg a) 34 (S 32 1).toNatClampNeg b) 35 (S 32 1).toNatClampNeg c) 32 1 ((S 32 1) + 1)))) else (if a = 0 then ((((S 32 1) + 1) - 1, (xj_set (xj_set (xj_set (xj_set (xj_set S 32 0 0) 33 (S 32 1).toNatClampNeg a) 34 (S 32 1).toNatClampNeg b) 35 (S 32 1).toNatClampNeg c) 32 1 ((S 32 1) + 1)))) else (match f_m_fail 2 (xj_set S 32 0 0) with | (v5, S5) => (v5, S5))))) else (match f_m_fail 2 (xj_set S 32 0 0) with | (v6, S6) => (v6, S6))))) else (match f_m_fail 1 (xj_set S 32 0 0) with | (v7, S7) => (v7, S7)))
def d_m_item (a : Int32) (b : Int32) (c : Int32) (S : (Nat → Nat → Int32)) : Prop := ((S 32 15) ≠ 0 → (d_m_fail 1 (xj_set S 32 0 0) ∧ (match f_m_fail 1 (xj_set S 32 0 0) with | (v1, S1) => True))) ∧ (¬ ((S 32 15) ≠ 0) → (((S 32 1) ≠ 12 → (d_m_within (xj_set S 32 0 0) a 3 ∧ (((r_m_within (xj_set S 32 0 0) a 3) = 0 → (d_m_fail 2 (xj_set S 32 0 0) ∧ (match f_m_fail 2 (xj_set S 32 0 0) with | (v2, S2) => True))) ∧ (¬ ((r_m_within (xj_set S 32 0 0) a 3) = 0) → (d_m_within (xj_set S 32 0 0) b ((S 32 1) - 1) ∧ (((r_m_within (xj_set S 32 0 0) b ((S 32 1) - 1)) = 0 → (d_m_fail 2 (xj_set S 32 0 0) ∧ (match f_m_fail 2 (xj_set S 32 0 0) with | (v3, S3) => True))) ∧ (¬ ((r_m_within (xj_set S 32 0 0) b ((S 32 1) - 1)) = 0) → (d_m_within (xj_set S 32 0 0) c 15 ∧ (((r_m_within (xj_set S 32 0 0) c 15) ≠ 0 → (vp_in b 12 ∧ (((S 33 b.toNatClampNeg) ≠ 0 → (d_m_fail 2 (xj_set S 32 0 0) ∧ (match f_m_fail 2 (xj_set S 32 0 0) with | (v4, S4) => True))) ∧ (¬ ((S 33 b.toNatClampNeg) ≠ 0) → ((c ≤ 7 → (vp_in (S 32 1) 12 ∧ (vp_in (S 32 1) 12 ∧ (vp_in (S 32 1) 12 ∧ (True))))) ∧ (¬ (c ≤ 7) → ((a = 0 → (vp_in (S 32 1) 12 ∧ (vp_in (S 32 1) 12 ∧ (vp_in (S 32 1) 12 ∧ (True))))) ∧ (¬ (a = 0) → (d_m_fail 2 (xj_set S 32 0 0) ∧ (match f_m_fail 2 (xj_set S 32 0 0) with | (v5, S5) => True)))))))))) ∧ (¬ ((r_m_within (xj_set S 32 0 0) c 15) ≠ 0) → (d_m_fail 2 (xj_set S 32 0 0) ∧ (match f_m_fail 2 (xj_set S 32 0 0) with | (v6, S6) => True)))))))))))) ∧ (¬ ((S 32 1) ≠ 12) → (d_m_fail 1 (xj_set S 32 0 0) ∧ (match f_m_fail 1 (xj_set S 32 0 0) with | (v7, S7) => True)))))
seal f_m_item d_m_item
set_option maxHeartbeats 4000000 in
set_option maxRecDepth 100000 in
theorem ok_m_item {L : Nat} {xs : Nat → Int32} {T : Nat → Nat → Int64} {D : Nat} {S : (Nat → Nat → Int32)} {P : (Option Value ⊕ Nat) → xj_W → Nat → Nat → Prop} {a b c : Int32} (hD : 1 ≤ D) (hd : d_m_item a b c S) (h : ∀ v S9, (v, S9) = f_m_item a b c S → P (.inl (some (.int v))) (SH, S9, T) 0 0) : xj_E (xX L xs) D 71 0 [(0, .ref 32), (1, .int a), (2, .int b), (3, .int c)] [] (SH, S, T) P := by
  unfold d_m_item at hd
  unfold f_m_item at h
  obtain ⟨D1, rfl⟩ : ∃ D1, D = D1 + 1 := ⟨D - 1, by omega⟩
  refine xj_E.adv 6 (pc' := (if xj_cmp .ne (S 32 15) 0 = true then 21 else 12)) (ls' := [(0, .ref 32), (1, .int a), (2, .int b), (3, .int c)]) (st' := []) (w' := (SH, (xj_set S 32 0 0), T)) rfl ?_
  refine xj_E.b_ne (fun q => ?_) (fun q => ?_)
  · have hd := hd.1 q
    have h := fun v S9 e => h v S9 (Eq.trans e (if_pos q).symm)
    refine xj_E.adv 2 (pc' := 23) (ls' := [(0, .ref 32), (1, .int a), (2, .int b), (3, .int c)]) (st' := [.int 1, .ref 32]) (w' := (SH, (xj_set S 32 0 0), T)) rfl ?_
    refine xj_E.calli (d := D1) (S := SH) rfl rfl rfl rfl rfl (ok_m_fail (by omega) hd.1 ?_)
    intro v1 S1 e1
    refine ⟨_, _, _, rfl, rfl, rfl, rfl, ?_⟩
    have hd := hd.2
    rw [← e1] at hd h
    exact xj_E.ret rfl rfl rfl rfl (h _ _ rfl)
  · have hd := hd.2 q
    have h := fun v S9 e => h v S9 (Eq.trans e (if_neg q).symm)
    refine xj_E.adv 4 (pc' := (if xj_cmp .ne (S 32 1) 12 = true then 27 else 21)) (ls' := [(0, .ref 32), (1, .int a), (2, .int b), (3, .int c)]) (st' := []) (w' := (SH, (xj_set S 32 0 0), T)) rfl ?_
    refine xj_E.b_ne (fun q => ?_) (fun q => ?_)
    · have hd := hd.1 q
      have h := fun v S9 e => h v S9 (Eq.trans e (if_pos q).symm)
      refine xj_E.adv 2 (pc' := 29) (ls' := [(0, .ref 32), (1, .int a), (2, .int b), (3, .int c)]) (st' := [.int 3, .int a]) (w' := (SH, (xj_set S 32 0 0), T)) rfl ?_
      refine xj_E.calli (d := D1) (S := SH) rfl rfl rfl rfl rfl (xj_E.deep (ok_m_within (d := 0) hd.1 ?_) (by omega))
      intro v e
      subst e
      refine ⟨_, _, _, rfl, rfl, rfl, rfl, ?_⟩
      have hd := hd.2
      refine xj_E.adv 1 (pc' := (if xj_cmp .eq (r_m_within (xj_set S 32 0 0) a 3) 0 = true then 57 else 35)) (ls' := [(0, .ref 32), (1, .int a), (2, .int b), (3, .int c)]) (st' := []) (w' := (SH, (xj_set S 32 0 0), T)) rfl ?_
      refine xj_E.b_eq (fun q => ?_) (fun q => ?_)
      · have hd := hd.1 q
        have h := fun v S9 e => h v S9 (Eq.trans e (if_pos q).symm)
        refine xj_E.adv 2 (pc' := 59) (ls' := [(0, .ref 32), (1, .int a), (2, .int b), (3, .int c)]) (st' := [.int 2, .ref 32]) (w' := (SH, (xj_set S 32 0 0), T)) rfl ?_
        refine xj_E.calli (d := D1) (S := SH) rfl rfl rfl rfl rfl (ok_m_fail (by omega) hd.1 ?_)
        intro v2 S2 e2
        refine ⟨_, _, _, rfl, rfl, rfl, rfl, ?_⟩
        have hd := hd.2
        rw [← e2] at hd h
        exact xj_E.ret rfl rfl rfl rfl (h _ _ rfl)
      · have hd := hd.2 q
        have h := fun v S9 e => h v S9 (Eq.trans e (if_neg q).symm)
        refine xj_E.adv 5 (pc' := 42) (ls' := [(0, .ref 32), (1, .int a), (2, .int b), (3, .int c)]) (st' := [.int ((S 32 1) - 1), .int b]) (w' := (SH, (xj_set S 32 0 0), T)) rfl ?_
        refine xj_E.calli (d := D1) (S := SH) rfl rfl rfl rfl rfl (xj_E.deep (ok_m_within (d := 0) hd.1 ?_) (by omega))
        intro v e
        subst e
        refine ⟨_, _, _, rfl, rfl, rfl, rfl, ?_⟩
        have hd := hd.2
        refine xj_E.adv 1 (pc' := (if xj_cmp .eq (r_m_within (xj_set S 32 0 0) b ((S 32 1) - 1)) 0 = true then 57 else 48)) (ls' := [(0, .ref 32), (1, .int a), (2, .int b), (3, .int c)]) (st' := []) (w' := (SH, (xj_set S 32 0 0), T)) rfl ?_
        refine xj_E.b_eq (fun q => ?_) (fun q => ?_)
        · have hd := hd.1 q
          have h := fun v S9 e => h v S9 (Eq.trans e (if_pos q).symm)
          refine xj_E.adv 2 (pc' := 59) (ls' := [(0, .ref 32), (1, .int a), (2, .int b), (3, .int c)]) (st' := [.int 2, .ref 32]) (w' := (SH, (xj_set S 32 0 0), T)) rfl ?_
          refine xj_E.calli (d := D1) (S := SH) rfl rfl rfl rfl rfl (ok_m_fail (by omega) hd.1 ?_)
          intro v3 S3 e3
          refine ⟨_, _, _, rfl, rfl, rfl, rfl, ?_⟩
          have hd := hd.2
          rw [← e3] at hd h
          exact xj_E.ret rfl rfl rfl rfl (h _ _ rfl)
        · have hd := hd.2 q
          have h := fun v S9 e => h v S9 (Eq.trans e (if_neg q).symm)
          refine xj_E.adv 2 (pc' := 51) (ls' := [(0, .ref 32), (1, .int a), (2, .int b), (3, .int c)]) (st' := [.int 15, .int c]) (w' := (SH, (xj_set S 32 0 0), T)) rfl ?_
          refine xj_E.calli (d := D1) (S := SH) rfl rfl rfl rfl rfl (xj_E.deep (ok_m_within (d := 0) hd.1 ?_) (by omega))
          intro v e
          subst e
          refine ⟨_, _, _, rfl, rfl, rfl, rfl, ?_⟩
          have hd := hd.2
          refine xj_E.adv 1 (pc' := (if xj_cmp .ne (r_m_within (xj_set S 32 0 0) c 15) 0 = true then 63 else 57)) (ls' := [(0, .ref 32), (1, .int a), (2, .int b), (3, .int c)]) (st' := []) (w' := (SH, (xj_set S 32 0 0), T)) rfl ?_
          refine xj_E.b_ne (fun q => ?_) (fun q => ?_)
          · have hd := hd.1 q
            have h := fun v S9 e => h v S9 (Eq.trans e (if_pos q).symm)
            refine xj_E.adv 3 (pc' := 68) (ls' := [(0, .ref 32), (1, .int a), (2, .int b), (3, .int c)]) (st' := [.int b, .ref 33]) (w' := (SH, (xj_set S 32 0 0), T)) rfl ?_
            refine xj_E.iald rfl rfl hd.1 ?_
            have hd := hd.2
            refine xj_E.adv 1 (pc' := (if xj_cmp .ne (S 33 b.toNatClampNeg) 0 = true then 82 else 72)) (ls' := [(0, .ref 32), (1, .int a), (2, .int b), (3, .int c)]) (st' := []) (w' := (SH, (xj_set S 32 0 0), T)) rfl ?_
            refine xj_E.b_ne (fun q => ?_) (fun q => ?_)
            · have hd := hd.1 q
              have h := fun v S9 e => h v S9 (Eq.trans e (if_pos q).symm)
              refine xj_E.adv 2 (pc' := 84) (ls' := [(0, .ref 32), (1, .int a), (2, .int b), (3, .int c)]) (st' := [.int 2, .ref 32]) (w' := (SH, (xj_set S 32 0 0), T)) rfl ?_
              refine xj_E.calli (d := D1) (S := SH) rfl rfl rfl rfl rfl (ok_m_fail (by omega) hd.1 ?_)
              intro v4 S4 e4
              refine ⟨_, _, _, rfl, rfl, rfl, rfl, ?_⟩
              have hd := hd.2
              rw [← e4] at hd h
              exact xj_E.ret rfl rfl rfl rfl (h _ _ rfl)
            · have hd := hd.2 q
              have h := fun v S9 e => h v S9 (Eq.trans e (if_neg q).symm)
              refine xj_E.adv 3 (pc' := (if xj_cmp .le c 7 = true then 88 else 78)) (ls' := [(0, .ref 32), (1, .int a), (2, .int b), (3, .int c)]) (st' := []) (w' := (SH, (xj_set S 32 0 0), T)) rfl ?_
              refine xj_E.b_le (fun q => ?_) (fun q => ?_)
              · have hd := hd.1 q
                have h := fun v S9 e => h v S9 (Eq.trans e (if_pos q).symm)
                refine xj_E.adv 5 (pc' := 97) (ls' := [(0, .ref 32), (1, .int a), (2, .int b), (3, .int c)]) (st' := [.int a, .int (S 32 1), .ref 33]) (w' := (SH, (xj_set S 32 0 0), T)) rfl ?_
                refine xj_E.iast rfl rfl hd.1 ?_
                have hd := hd.2
                refine xj_E.adv 5 (pc' := 107) (ls' := [(0, .ref 32), (1, .int a), (2, .int b), (3, .int c)]) (st' := [.int b, .int (S 32 1), .ref 34]) (w' := (SH, (xj_set (xj_set S 32 0 0) 33 (S 32 1).toNatClampNeg a), T)) rfl ?_
                refine xj_E.iast rfl rfl hd.1 ?_
                have hd := hd.2
                refine xj_E.adv 5 (pc' := 117) (ls' := [(0, .ref 32), (1, .int a), (2, .int b), (3, .int c)]) (st' := [.int c, .int (S 32 1), .ref 35]) (w' := (SH, (xj_set (xj_set (xj_set S 32 0 0) 33 (S 32 1).toNatClampNeg a) 34 (S 32 1).toNatClampNeg b), T)) rfl ?_
                refine xj_E.iast rfl rfl hd.1 ?_
                have hd := hd.2
                refine xj_E.adv 10 (pc' := 134) (ls' := [(0, .ref 32), (1, .int a), (2, .int b), (3, .int c)]) (st' := [.int (((S 32 1) + 1) - 1)]) (w' := (SH, (xj_set (xj_set (xj_set (xj_set (xj_set S 32 0 0) 33 (S 32 1).toNatClampNeg a) 34 (S 32 1).toNatClampNeg b) 35 (S 32 1).toNatClampNeg c) 32 1 ((S 32 1) + 1)), T)) rfl ?_
                exact xj_E.ret rfl rfl rfl rfl (h _ _ rfl)
              · have hd := hd.2 q
                have h := fun v S9 e => h v S9 (Eq.trans e (if_neg q).symm)
                refine xj_E.adv 2 (pc' := (if xj_cmp .eq a 0 = true then 88 else 82)) (ls' := [(0, .ref 32), (1, .int a), (2, .int b), (3, .int c)]) (st' := []) (w' := (SH, (xj_set S 32 0 0), T)) rfl ?_
                refine xj_E.b_eq (fun q => ?_) (fun q => ?_)
                · have hd := hd.1 q
                  have h := fun v S9 e => h v S9 (Eq.trans e (if_pos q).symm)
                  refine xj_E.adv 5 (pc' := 97) (ls' := [(0, .ref 32), (1, .int a), (2, .int b), (3, .int c)]) (st' := [.int a, .int (S 32 1), .ref 33]) (w' := (SH, (xj_set S 32 0 0), T)) rfl ?_
                  refine xj_E.iast rfl rfl hd.1 ?_
                  have hd := hd.2
                  refine xj_E.adv 5 (pc' := 107) (ls' := [(0, .ref 32), (1, .int a), (2, .int b), (3, .int c)]) (st' := [.int b, .int (S 32 1), .ref 34]) (w' := (SH, (xj_set (xj_set S 32 0 0) 33 (S 32 1).toNatClampNeg a), T)) rfl ?_
                  refine xj_E.iast rfl rfl hd.1 ?_
                  have hd := hd.2
                  refine xj_E.adv 5 (pc' := 117) (ls' := [(0, .ref 32), (1, .int a), (2, .int b), (3, .int c)]) (st' := [.int c, .int (S 32 1), .ref 35]) (w' := (SH, (xj_set (xj_set (xj_set S 32 0 0) 33 (S 32 1).toNatClampNeg a) 34 (S 32 1).toNatClampNeg b), T)) rfl ?_
                  refine xj_E.iast rfl rfl hd.1 ?_
                  have hd := hd.2
                  refine xj_E.adv 10 (pc' := 134) (ls' := [(0, .ref 32), (1, .int a), (2, .int b), (3, .int c)]) (st' := [.int (((S 32 1) + 1) - 1)]) (w' := (SH, (xj_set (xj_set (xj_set (xj_set (xj_set S 32 0 0) 33 (S 32 1).toNatClampNeg a) 34 (S 32 1).toNatClampNeg b) 35 (S 32 1).toNatClampNeg c) 32 1 ((S 32 1) + 1)), T)) rfl ?_
                  exact xj_E.ret rfl rfl rfl rfl (h _ _ rfl)
                · have hd := hd.2 q
                  have h := fun v S9 e => h v S9 (Eq.trans e (if_neg q).symm)
                  refine xj_E.adv 2 (pc' := 84) (ls' := [(0, .ref 32), (1, .int a), (2, .int b), (3, .int c)]) (st' := [.int 2, .ref 32]) (w' := (SH, (xj_set S 32 0 0), T)) rfl ?_
                  refine xj_E.calli (d := D1) (S := SH) rfl rfl rfl rfl rfl (ok_m_fail (by omega) hd.1 ?_)
                  intro v5 S5 e5
                  refine ⟨_, _, _, rfl, rfl, rfl, rfl, ?_⟩
                  have hd := hd.2
                  rw [← e5] at hd h
                  exact xj_E.ret rfl rfl rfl rfl (h _ _ rfl)
          · have hd := hd.2 q
            have h := fun v S9 e => h v S9 (Eq.trans e (if_neg q).symm)
            refine xj_E.adv 2 (pc' := 59) (ls' := [(0, .ref 32), (1, .int a), (2, .int b), (3, .int c)]) (st' := [.int 2, .ref 32]) (w' := (SH, (xj_set S 32 0 0), T)) rfl ?_
            refine xj_E.calli (d := D1) (S := SH) rfl rfl rfl rfl rfl (ok_m_fail (by omega) hd.1 ?_)
            intro v6 S6 e6
            refine ⟨_, _, _, rfl, rfl, rfl, rfl, ?_⟩
            have hd := hd.2
            rw [← e6] at hd h
            exact xj_E.ret rfl rfl rfl rfl (h _ _ rfl)
    · have hd := hd.2 q
      have h := fun v S9 e => h v S9 (Eq.trans e (if_neg q).symm)
      refine xj_E.adv 2 (pc' := 23) (ls' := [(0, .ref 32), (1, .int a), (2, .int b), (3, .int c)]) (st' := [.int 1, .ref 32]) (w' := (SH, (xj_set S 32 0 0), T)) rfl ?_
      refine xj_E.calli (d := D1) (S := SH) rfl rfl rfl rfl rfl (ok_m_fail (by omega) hd.1 ?_)
      intro v7 S7 e7
      refine ⟨_, _, _, rfl, rfl, rfl, rfl, ?_⟩
      have hd := hd.2
      rw [← e7] at hd h
      exact xj_E.ret rfl rfl rfl rfl (h _ _ rfl)
def f_m_sentry (a : Int32) (b : Int32) (S : (Nat → Nat → Int32)) : Int32 × (Nat → Nat → Int32) := if (S 32 15) ≠ 0 then (match f_m_fail 1 (xj_set S 32 0 0) with | (v1, S1) => (v1, S1)) else (if (S 32 5) ≠ 16 then (if a < 1 then (match f_m_fail 2 (xj_set S 32 0 0) with | (v2, S2) => (v2, S2)) else (if a < (S 32 1) then (if b = 0 then (if (S 33 a.toNatClampNeg) ≤ 2 then ((((S 32 5) + 1) - 1, (xj_set (xj_set (xj_set (xj_set (xj_set (xj_set S 32 0 0) 36 (S 32 5).toNatClampNeg a) 37 (S 32 5).toNatClampNeg (b &&& 1)) 38 (S 32 5).toNatClampNeg 0) 41 (S 32 5).toNatClampNeg (0 &&& 1)) 32 5 ((S 32 5) + 1)))) else (match f_m_fail 2 (xj_set S 32 0 0) with | (v3, S3) => (v3, S3))) else (if (S 33 a.toNatClampNeg) ≤ 1 then ((((S 32 5) + 1) - 1, (xj_set (xj_set (xj_set (xj_set (xj_set (xj_set S 32 0 0) 36 (S 32 5).toNatClampNeg a) 37 (S 32 5).toNatClampNeg (b &&& 1)) 38 (S 32 5).toNatClampNeg 0) 41 (S 32 5).toNatClampNeg (0 &&& 1)) 32 5 ((S 32 5) + 1)))) else (match f_m_fail 2 (xj_set S 32 0 0) with | (v4, S4) => (v4, S4)))) else (match f_m_fail 2 (xj_set S 32 0 0) with | (v5, S5) => (v5, S5)))) else (match f_m_fail 1 (xj_set S 32 0 0) with | (v6, S6) => (v6, S6)))
def d_m_sentry (a : Int32) (b : Int32) (S : (Nat → Nat → Int32)) : Prop := ((S 32 15) ≠ 0 → (d_m_fail 1 (xj_set S 32 0 0) ∧ (match f_m_fail 1 (xj_set S 32 0 0) with | (v1, S1) => True))) ∧ (¬ ((S 32 15) ≠ 0) → (((S 32 5) ≠ 16 → ((a < 1 → (d_m_fail 2 (xj_set S 32 0 0) ∧ (match f_m_fail 2 (xj_set S 32 0 0) with | (v2, S2) => True))) ∧ (¬ (a < 1) → ((a < (S 32 1) → (vp_in a 12 ∧ ((b = 0 → (((S 33 a.toNatClampNeg) ≤ 2 → (vp_in (S 32 5) 16 ∧ (vp_in (S 32 5) 16 ∧ (vp_in (S 32 5) 16 ∧ (vp_in (S 32 5) 16 ∧ (True)))))) ∧ (¬ ((S 33 a.toNatClampNeg) ≤ 2) → (d_m_fail 2 (xj_set S 32 0 0) ∧ (match f_m_fail 2 (xj_set S 32 0 0) with | (v3, S3) => True))))) ∧ (¬ (b = 0) → (((S 33 a.toNatClampNeg) ≤ 1 → (vp_in (S 32 5) 16 ∧ (vp_in (S 32 5) 16 ∧ (vp_in (S 32 5) 16 ∧ (vp_in (S 32 5) 16 ∧ (True)))))) ∧ (¬ ((S 33 a.toNatClampNeg) ≤ 1) → (d_m_fail 2 (xj_set S 32 0 0) ∧ (match f_m_fail 2 (xj_set S 32 0 0) with | (v4, S4) => True)))))))) ∧ (¬ (a < (S 32 1)) → (d_m_fail 2 (xj_set S 32 0 0) ∧ (match f_m_fail 2 (xj_set S 32 0 0) with | (v5, S5) => True))))))) ∧ (¬ ((S 32 5) ≠ 16) → (d_m_fail 1 (xj_set S 32 0 0) ∧ (match f_m_fail 1 (xj_set S 32 0 0) with | (v6, S6) => True)))))
seal f_m_sentry d_m_sentry
set_option maxHeartbeats 4000000 in
set_option maxRecDepth 100000 in
theorem ok_m_sentry {L : Nat} {xs : Nat → Int32} {T : Nat → Nat → Int64} {D : Nat} {S : (Nat → Nat → Int32)} {P : (Option Value ⊕ Nat) → xj_W → Nat → Nat → Prop} {a b : Int32} (hD : 1 ≤ D) (hd : d_m_sentry a b S) (h : ∀ v S9, (v, S9) = f_m_sentry a b S → P (.inl (some (.int v))) (SH, S9, T) 0 0) : xj_E (xX L xs) D 72 0 [(0, .ref 32), (1, .int a), (2, .int b)] [] (SH, S, T) P := by
  unfold d_m_sentry at hd
  unfold f_m_sentry at h
  obtain ⟨D1, rfl⟩ : ∃ D1, D = D1 + 1 := ⟨D - 1, by omega⟩
  refine xj_E.adv 6 (pc' := (if xj_cmp .ne (S 32 15) 0 = true then 21 else 12)) (ls' := [(0, .ref 32), (1, .int a), (2, .int b)]) (st' := []) (w' := (SH, (xj_set S 32 0 0), T)) rfl ?_
  refine xj_E.b_ne (fun q => ?_) (fun q => ?_)
  · have hd := hd.1 q
    have h := fun v S9 e => h v S9 (Eq.trans e (if_pos q).symm)
    refine xj_E.adv 2 (pc' := 23) (ls' := [(0, .ref 32), (1, .int a), (2, .int b)]) (st' := [.int 1, .ref 32]) (w' := (SH, (xj_set S 32 0 0), T)) rfl ?_
    refine xj_E.calli (d := D1) (S := SH) rfl rfl rfl rfl rfl (ok_m_fail (by omega) hd.1 ?_)
    intro v1 S1 e1
    refine ⟨_, _, _, rfl, rfl, rfl, rfl, ?_⟩
    have hd := hd.2
    rw [← e1] at hd h
    exact xj_E.ret rfl rfl rfl rfl (h _ _ rfl)
  · have hd := hd.2 q
    have h := fun v S9 e => h v S9 (Eq.trans e (if_neg q).symm)
    refine xj_E.adv 4 (pc' := (if xj_cmp .ne (S 32 5) 16 = true then 27 else 21)) (ls' := [(0, .ref 32), (1, .int a), (2, .int b)]) (st' := []) (w' := (SH, (xj_set S 32 0 0), T)) rfl ?_
    refine xj_E.b_ne (fun q => ?_) (fun q => ?_)
    · have hd := hd.1 q
      have h := fun v S9 e => h v S9 (Eq.trans e (if_pos q).symm)
      refine xj_E.adv 3 (pc' := (if xj_cmp .lt a 1 = true then 40 else 32)) (ls' := [(0, .ref 32), (1, .int a), (2, .int b)]) (st' := []) (w' := (SH, (xj_set S 32 0 0), T)) rfl ?_
      refine xj_E.b_lt (fun q => ?_) (fun q => ?_)
      · have hd := hd.1 q
        have h := fun v S9 e => h v S9 (Eq.trans e (if_pos q).symm)
        refine xj_E.adv 2 (pc' := 42) (ls' := [(0, .ref 32), (1, .int a), (2, .int b)]) (st' := [.int 2, .ref 32]) (w' := (SH, (xj_set S 32 0 0), T)) rfl ?_
        refine xj_E.calli (d := D1) (S := SH) rfl rfl rfl rfl rfl (ok_m_fail (by omega) hd.1 ?_)
        intro v2 S2 e2
        refine ⟨_, _, _, rfl, rfl, rfl, rfl, ?_⟩
        have hd := hd.2
        rw [← e2] at hd h
        exact xj_E.ret rfl rfl rfl rfl (h _ _ rfl)
      · have hd := hd.2 q
        have h := fun v S9 e => h v S9 (Eq.trans e (if_neg q).symm)
        refine xj_E.adv 4 (pc' := (if xj_cmp .lt a (S 32 1) = true then 46 else 40)) (ls' := [(0, .ref 32), (1, .int a), (2, .int b)]) (st' := []) (w' := (SH, (xj_set S 32 0 0), T)) rfl ?_
        refine xj_E.b_lt (fun q => ?_) (fun q => ?_)
        · have hd := hd.1 q
          have h := fun v S9 e => h v S9 (Eq.trans e (if_pos q).symm)
          refine xj_E.adv 3 (pc' := 51) (ls' := [(0, .ref 32), (1, .int a), (2, .int b)]) (st' := [.int a, .ref 33]) (w' := (SH, (xj_set S 32 0 0), T)) rfl ?_
          refine xj_E.iald rfl rfl hd.1 ?_
          have hd := hd.2
          refine xj_E.adv 2 (pc' := (if xj_cmp .eq b 0 = true then 60 else 56)) (ls' := [(0, .ref 32), (1, .int a), (2, .int b)]) (st' := [.int (S 33 a.toNatClampNeg)]) (w' := (SH, (xj_set S 32 0 0), T)) rfl ?_
          refine xj_E.b_eq (fun q => ?_) (fun q => ?_)
          · have hd := hd.1 q
            have h := fun v S9 e => h v S9 (Eq.trans e (if_pos q).symm)
            refine xj_E.adv 2 (pc' := (if xj_cmp .le (S 33 a.toNatClampNeg) 2 = true then 70 else 64)) (ls' := [(0, .ref 32), (1, .int a), (2, .int b)]) (st' := []) (w' := (SH, (xj_set S 32 0 0), T)) rfl ?_
            refine xj_E.b_le (fun q => ?_) (fun q => ?_)
            · have hd := hd.1 q
              have h := fun v S9 e => h v S9 (Eq.trans e (if_pos q).symm)
              refine xj_E.adv 5 (pc' := 79) (ls' := [(0, .ref 32), (1, .int a), (2, .int b)]) (st' := [.int a, .int (S 32 5), .ref 36]) (w' := (SH, (xj_set S 32 0 0), T)) rfl ?_
              refine xj_E.iast rfl rfl hd.1 ?_
              have hd := hd.2
              refine xj_E.adv 5 (pc' := 89) (ls' := [(0, .ref 32), (1, .int a), (2, .int b)]) (st' := [.int b, .int (S 32 5), .ref 37]) (w' := (SH, (xj_set (xj_set S 32 0 0) 36 (S 32 5).toNatClampNeg a), T)) rfl ?_
              refine xj_E.bast rfl rfl hd.1 ?_
              have hd := hd.2
              refine xj_E.adv 5 (pc' := 99) (ls' := [(0, .ref 32), (1, .int a), (2, .int b)]) (st' := [.int 0, .int (S 32 5), .ref 38]) (w' := (SH, (xj_set (xj_set (xj_set S 32 0 0) 36 (S 32 5).toNatClampNeg a) 37 (S 32 5).toNatClampNeg (b &&& 1)), T)) rfl ?_
              refine xj_E.iast rfl rfl hd.1 ?_
              have hd := hd.2
              refine xj_E.adv 5 (pc' := 109) (ls' := [(0, .ref 32), (1, .int a), (2, .int b)]) (st' := [.int 0, .int (S 32 5), .ref 41]) (w' := (SH, (xj_set (xj_set (xj_set (xj_set S 32 0 0) 36 (S 32 5).toNatClampNeg a) 37 (S 32 5).toNatClampNeg (b &&& 1)) 38 (S 32 5).toNatClampNeg 0), T)) rfl ?_
              refine xj_E.bast rfl rfl hd.1 ?_
              have hd := hd.2
              refine xj_E.adv 10 (pc' := 126) (ls' := [(0, .ref 32), (1, .int a), (2, .int b)]) (st' := [.int (((S 32 5) + 1) - 1)]) (w' := (SH, (xj_set (xj_set (xj_set (xj_set (xj_set (xj_set S 32 0 0) 36 (S 32 5).toNatClampNeg a) 37 (S 32 5).toNatClampNeg (b &&& 1)) 38 (S 32 5).toNatClampNeg 0) 41 (S 32 5).toNatClampNeg (0 &&& 1)) 32 5 ((S 32 5) + 1)), T)) rfl ?_
              exact xj_E.ret rfl rfl rfl rfl (h _ _ rfl)
            · have hd := hd.2 q
              have h := fun v S9 e => h v S9 (Eq.trans e (if_neg q).symm)
              refine xj_E.adv 2 (pc' := 66) (ls' := [(0, .ref 32), (1, .int a), (2, .int b)]) (st' := [.int 2, .ref 32]) (w' := (SH, (xj_set S 32 0 0), T)) rfl ?_
              refine xj_E.calli (d := D1) (S := SH) rfl rfl rfl rfl rfl (ok_m_fail (by omega) hd.1 ?_)
              intro v3 S3 e3
              refine ⟨_, _, _, rfl, rfl, rfl, rfl, ?_⟩
              have hd := hd.2
              rw [← e3] at hd h
              exact xj_E.ret rfl rfl rfl rfl (h _ _ rfl)
          · have hd := hd.2 q
            have h := fun v S9 e => h v S9 (Eq.trans e (if_neg q).symm)
            refine xj_E.adv 3 (pc' := (if xj_cmp .le (S 33 a.toNatClampNeg) 1 = true then 70 else 64)) (ls' := [(0, .ref 32), (1, .int a), (2, .int b)]) (st' := []) (w' := (SH, (xj_set S 32 0 0), T)) rfl ?_
            refine xj_E.b_le (fun q => ?_) (fun q => ?_)
            · have hd := hd.1 q
              have h := fun v S9 e => h v S9 (Eq.trans e (if_pos q).symm)
              refine xj_E.adv 5 (pc' := 79) (ls' := [(0, .ref 32), (1, .int a), (2, .int b)]) (st' := [.int a, .int (S 32 5), .ref 36]) (w' := (SH, (xj_set S 32 0 0), T)) rfl ?_
              refine xj_E.iast rfl rfl hd.1 ?_
              have hd := hd.2
              refine xj_E.adv 5 (pc' := 89) (ls' := [(0, .ref 32), (1, .int a), (2, .int b)]) (st' := [.int b, .int (S 32 5), .ref 37]) (w' := (SH, (xj_set (xj_set S 32 0 0) 36 (S 32 5).toNatClampNeg a), T)) rfl ?_
              refine xj_E.bast rfl rfl hd.1 ?_
              have hd := hd.2
              refine xj_E.adv 5 (pc' := 99) (ls' := [(0, .ref 32), (1, .int a), (2, .int b)]) (st' := [.int 0, .int (S 32 5), .ref 38]) (w' := (SH, (xj_set (xj_set (xj_set S 32 0 0) 36 (S 32 5).toNatClampNeg a) 37 (S 32 5).toNatClampNeg (b &&& 1)), T)) rfl ?_
              refine xj_E.iast rfl rfl hd.1 ?_
              have hd := hd.2
              refine xj_E.adv 5 (pc' := 109) (ls' := [(0, .ref 32), (1, .int a), (2, .int b)]) (st' := [.int 0, .int (S 32 5), .ref 41]) (w' := (SH, (xj_set (xj_set (xj_set (xj_set S 32 0 0) 36 (S 32 5).toNatClampNeg a) 37 (S 32 5).toNatClampNeg (b &&& 1)) 38 (S 32 5).toNatClampNeg 0), T)) rfl ?_
              refine xj_E.bast rfl rfl hd.1 ?_
              have hd := hd.2
              refine xj_E.adv 10 (pc' := 126) (ls' := [(0, .ref 32), (1, .int a), (2, .int b)]) (st' := [.int (((S 32 5) + 1) - 1)]) (w' := (SH, (xj_set (xj_set (xj_set (xj_set (xj_set (xj_set S 32 0 0) 36 (S 32 5).toNatClampNeg a) 37 (S 32 5).toNatClampNeg (b &&& 1)) 38 (S 32 5).toNatClampNeg 0) 41 (S 32 5).toNatClampNeg (0 &&& 1)) 32 5 ((S 32 5) + 1)), T)) rfl ?_
              exact xj_E.ret rfl rfl rfl rfl (h _ _ rfl)
            · have hd := hd.2 q
              have h := fun v S9 e => h v S9 (Eq.trans e (if_neg q).symm)
              refine xj_E.adv 2 (pc' := 66) (ls' := [(0, .ref 32), (1, .int a), (2, .int b)]) (st' := [.int 2, .ref 32]) (w' := (SH, (xj_set S 32 0 0), T)) rfl ?_
              refine xj_E.calli (d := D1) (S := SH) rfl rfl rfl rfl rfl (ok_m_fail (by omega) hd.1 ?_)
              intro v4 S4 e4
              refine ⟨_, _, _, rfl, rfl, rfl, rfl, ?_⟩
              have hd := hd.2
              rw [← e4] at hd h
              exact xj_E.ret rfl rfl rfl rfl (h _ _ rfl)
        · have hd := hd.2 q
          have h := fun v S9 e => h v S9 (Eq.trans e (if_neg q).symm)
          refine xj_E.adv 2 (pc' := 42) (ls' := [(0, .ref 32), (1, .int a), (2, .int b)]) (st' := [.int 2, .ref 32]) (w' := (SH, (xj_set S 32 0 0), T)) rfl ?_
          refine xj_E.calli (d := D1) (S := SH) rfl rfl rfl rfl rfl (ok_m_fail (by omega) hd.1 ?_)
          intro v5 S5 e5
          refine ⟨_, _, _, rfl, rfl, rfl, rfl, ?_⟩
          have hd := hd.2
          rw [← e5] at hd h
          exact xj_E.ret rfl rfl rfl rfl (h _ _ rfl)
    · have hd := hd.2 q
      have h := fun v S9 e => h v S9 (Eq.trans e (if_neg q).symm)
      refine xj_E.adv 2 (pc' := 23) (ls' := [(0, .ref 32), (1, .int a), (2, .int b)]) (st' := [.int 1, .ref 32]) (w' := (SH, (xj_set S 32 0 0), T)) rfl ?_
      refine xj_E.calli (d := D1) (S := SH) rfl rfl rfl rfl rfl (ok_m_fail (by omega) hd.1 ?_)
      intro v6 S6 e6
      refine ⟨_, _, _, rfl, rfl, rfl, rfl, ?_⟩
      have hd := hd.2
      rw [← e6] at hd h
      exact xj_E.ret rfl rfl rfl rfl (h _ _ rfl)
def f_m_on (a : Int32) (b : Int32) (c : Int32) (S : (Nat → Nat → Int32)) : Int32 × (Nat → Nat → Int32) := if (S 32 15) ≠ 0 then (match f_m_fail 1 (xj_set S 32 0 0) with | (v1, S1) => (v1, S1)) else (if (r_m_isSentry (xj_set S 32 0 0) a) = 0 then (if (r_m_isSentry (xj_set S 32 0 0) a) ≠ 0 then (if b < 0 then (if (r_m_within (xj_set S 32 0 0) (b - 100) 3) ≠ 0 then (((xj_set (xj_set (xj_set (xj_set S 32 0 0) 39 ((2 * a) + (S 38 a.toNatClampNeg)).toNatClampNeg b) 40 ((2 * a) + (S 38 a.toNatClampNeg)).toNatClampNeg c) 38 a.toNatClampNeg ((S 38 a.toNatClampNeg) + 1)) 38 a.toNatClampNeg, (xj_set (xj_set (xj_set (xj_set S 32 0 0) 39 ((2 * a) + (S 38 a.toNatClampNeg)).toNatClampNeg b) 40 ((2 * a) + (S 38 a.toNatClampNeg)).toNatClampNeg c) 38 a.toNatClampNeg ((S 38 a.toNatClampNeg) + 1)))) else (match f_m_fail 2 (xj_set S 32 0 0) with | (v2, S2) => (v2, S2))) else (if (S 32 1) ≤ b then (if (r_m_within (xj_set S 32 0 0) (b - 100) 3) ≠ 0 then (((xj_set (xj_set (xj_set (xj_set S 32 0 0) 39 ((2 * a) + (S 38 a.toNatClampNeg)).toNatClampNeg b) 40 ((2 * a) + (S 38 a.toNatClampNeg)).toNatClampNeg c) 38 a.toNatClampNeg ((S 38 a.toNatClampNeg) + 1)) 38 a.toNatClampNeg, (xj_set (xj_set (xj_set (xj_set S 32 0 0) 39 ((2 * a) + (S 38 a.toNatClampNeg)).toNatClampNeg b) 40 ((2 * a) + (S 38 a.toNatClampNeg)).toNatClampNeg c) 38 a.toNatClampNeg ((S 38 a.toNatClampNeg) + 1)))) else (match f_m_fail 2 (xj_set S 32 0 0) with | (v3, S3) => (v3, S3))) else (if b = (S 36 a.toNatClampNeg) then (match f_m_fail 2 (xj_set S 32 0 0) with | (v4, S4) => (v4, S4)) else (if (S 34 b.toNatClampNeg) ≠ (S 34 (S 36 a.toNatClampNeg).toNatClampNeg) then (match f_m_fail 2 (xj_set S 32 0 0) with | (v5, S5) => (v5, S5)) else (if (r_m_within (xj_set S 32 0 0) c 9) ≠ 0 then (((xj_set (xj_set (xj_set (xj_set S 32 0 0) 39 ((2 * a) + (S 38 a.toNatClampNeg)).toNatClampNeg b) 40 ((2 * a) + (S 38 a.toNatClampNeg)).toNatClampNeg c) 38 a.toNatClampNeg ((S 38 a.toNatClampNeg) + 1)) 38 a.toNatClampNeg, (xj_set (xj_set (xj_set (xj_set S 32 0 0) 39 ((2 * a) + (S 38 a.toNatClampNeg)).toNatClampNeg b) 40 ((2 * a) + (S 38 a.toNatClampNeg)).toNatClampNeg c) 38 a.toNatClampNeg ((S 38 a.toNatClampNeg) + 1)))) else (match f_m_fail 2 (xj_set S 32 0 0) with | (v6, S6) => (v6, S6))))))) else (match f_m_fail 2 (xj_set S 32 0 0) with | (v7, S7) => (v7, S7))) else (if (S 38 a.toNatClampNeg) ≠ 2 then (if (r_m_isSentry (xj_set S 32 0 0) a) ≠ 0 then (if b < 0 then (if (r_m_within (xj_set S 32 0 0) (b - 100) 3) ≠ 0 then (((xj_set (xj_set (xj_set (xj_set S 32 0 0) 39 ((2 * a) + (S 38 a.toNatClampNeg)).toNatClampNeg b) 40 ((2 * a) + (S 38 a.toNatClampNeg)).toNatClampNeg c) 38 a.toNatClampNeg ((S 38 a.toNatClampNeg) + 1)) 38 a.toNatClampNeg, (xj_set (xj_set (xj_set (xj_set S 32 0 0) 39 ((2 * a) + (S 38 a.toNatClampNeg)).toNatClampNeg b) 40 ((2 * a) + (S 38 a.toNatClampNeg)).toNatClampNeg c) 38 a.toNatClampNeg ((S 38 a.toNatClampNeg) + 1)))) else (match f_m_fail 2 (xj_set S 32 0 0) with | (v8, S8) => (v8, S8))) else (if (S 32 1) ≤ b then (if (r_m_within (xj_set S 32 0 0) (b - 100) 3) ≠ 0 then (((xj_set (xj_set (xj_set (xj_set S 32 0 0) 39 ((2 * a) + (S 38 a.toNatClampNeg)).toNatClampNeg b) 40 ((2 * a) + (S 38 a.toNatClampNeg)).toNatClampNeg c) 38 a.toNatClampNeg ((S 38 a.toNatClampNeg) + 1)) 38 a.toNatClampNeg, (xj_set (xj_set (xj_set (xj_set S 32 0 0) 39 ((2 * a) + (S 38 a.toNatClampNeg)).toNatClampNeg b) 40 ((2 * a) + (S 38 a.toNatClampNeg)).toNatClampNeg c) 38 a.toNatClampNeg ((S 38 a.toNatClampNeg) + 1)))) else (match f_m_fail 2 (xj_set S 32 0 0) with | (v9, S9) => (v9, S9))) else (if b = (S 36 a.toNatClampNeg) then (match f_m_fail 2 (xj_set S 32 0 0) with | (v10, S10) => (v10, S10)) else (if (S 34 b.toNatClampNeg) ≠ (S 34 (S 36 a.toNatClampNeg).toNatClampNeg) then (match f_m_fail 2 (xj_set S 32 0 0) with | (v11, S11) => (v11, S11)) else (if (r_m_within (xj_set S 32 0 0) c 9) ≠ 0 then (((xj_set (xj_set (xj_set (xj_set S 32 0 0) 39 ((2 * a) + (S 38 a.toNatClampNeg)).toNatClampNeg b) 40 ((2 * a) + (S 38 a.toNatClampNeg)).toNatClampNeg c) 38 a.toNatClampNeg ((S 38 a.toNatClampNeg) + 1)) 38 a.toNatClampNeg, (xj_set (xj_set (xj_set (xj_set S 32 0 0) 39 ((2 * a) + (S 38 a.toNatClampNeg)).toNatClampNeg b) 40 ((2 * a) + (S 38 a.toNatClampNeg)).toNatClampNeg c) 38 a.toNatClampNeg ((S 38 a.toNatClampNeg) + 1)))) else (match f_m_fail 2 (xj_set S 32 0 0) with | (v12, S12) => (v12, S12))))))) else (match f_m_fail 2 (xj_set S 32 0 0) with | (v13, S13) => (v13, S13))) else (match f_m_fail 1 (xj_set S 32 0 0) with | (v14, S14) => (v14, S14))))
def d_m_on (a : Int32) (b : Int32) (c : Int32) (S : (Nat → Nat → Int32)) : Prop := ((S 32 15) ≠ 0 → (d_m_fail 1 (xj_set S 32 0 0) ∧ (match f_m_fail 1 (xj_set S 32 0 0) with | (v1, S1) => True))) ∧ (¬ ((S 32 15) ≠ 0) → (d_m_isSentry (xj_set S 32 0 0) a ∧ (((r_m_isSentry (xj_set S 32 0 0) a) = 0 → (d_m_isSentry (xj_set S 32 0 0) a ∧ (((r_m_isSentry (xj_set S 32 0 0) a) ≠ 0 → ((b < 0 → (d_m_within (xj_set S 32 0 0) (b - 100) 3 ∧ (((r_m_within (xj_set S 32 0 0) (b - 100) 3) ≠ 0 → (vp_in a 16 ∧ (vp_in ((2 * a) + (S 38 a.toNatClampNeg)) 32 ∧ (vp_in ((2 * a) + (S 38 a.toNatClampNeg)) 32 ∧ (vp_in a 16 ∧ (vp_in a 16 ∧ (vp_in a 16 ∧ (True)))))))) ∧ (¬ ((r_m_within (xj_set S 32 0 0) (b - 100) 3) ≠ 0) → (d_m_fail 2 (xj_set S 32 0 0) ∧ (match f_m_fail 2 (xj_set S 32 0 0) with | (v2, S2) => True)))))) ∧ (¬ (b < 0) → (((S 32 1) ≤ b → (d_m_within (xj_set S 32 0 0) (b - 100) 3 ∧ (((r_m_within (xj_set S 32 0 0) (b - 100) 3) ≠ 0 → (vp_in a 16 ∧ (vp_in ((2 * a) + (S 38 a.toNatClampNeg)) 32 ∧ (vp_in ((2 * a) + (S 38 a.toNatClampNeg)) 32 ∧ (vp_in a 16 ∧ (vp_in a 16 ∧ (vp_in a 16 ∧ (True)))))))) ∧ (¬ ((r_m_within (xj_set S 32 0 0) (b - 100) 3) ≠ 0) → (d_m_fail 2 (xj_set S 32 0 0) ∧ (match f_m_fail 2 (xj_set S 32 0 0) with | (v3, S3) => True)))))) ∧ (¬ ((S 32 1) ≤ b) → (vp_in a 16 ∧ ((b = (S 36 a.toNatClampNeg) → (d_m_fail 2 (xj_set S 32 0 0) ∧ (match f_m_fail 2 (xj_set S 32 0 0) with | (v4, S4) => True))) ∧ (¬ (b = (S 36 a.toNatClampNeg)) → (vp_in b 12 ∧ (vp_in a 16 ∧ (vp_in (S 36 a.toNatClampNeg) 12 ∧ (((S 34 b.toNatClampNeg) ≠ (S 34 (S 36 a.toNatClampNeg).toNatClampNeg) → (d_m_fail 2 (xj_set S 32 0 0) ∧ (match f_m_fail 2 (xj_set S 32 0 0) with | (v5, S5) => True))) ∧ (¬ ((S 34 b.toNatClampNeg) ≠ (S 34 (S 36 a.toNatClampNeg).toNatClampNeg)) → (d_m_within (xj_set S 32 0 0) c 9 ∧ (((r_m_within (xj_set S 32 0 0) c 9) ≠ 0 → (vp_in a 16 ∧ (vp_in ((2 * a) + (S 38 a.toNatClampNeg)) 32 ∧ (vp_in ((2 * a) + (S 38 a.toNatClampNeg)) 32 ∧ (vp_in a 16 ∧ (vp_in a 16 ∧ (vp_in a 16 ∧ (True)))))))) ∧ (¬ ((r_m_within (xj_set S 32 0 0) c 9) ≠ 0) → (d_m_fail 2 (xj_set S 32 0 0) ∧ (match f_m_fail 2 (xj_set S 32 0 0) with | (v6, S6) => True)))))))))))))))))) ∧ (¬ ((r_m_isSentry (xj_set S 32 0 0) a) ≠ 0) → (d_m_fail 2 (xj_set S 32 0 0) ∧ (match f_m_fail 2 (xj_set S 32 0 0) with | (v7, S7) => True)))))) ∧ (¬ ((r_m_isSentry (xj_set S 32 0 0) a) = 0) → (vp_in a 16 ∧ (((S 38 a.toNatClampNeg) ≠ 2 → (d_m_isSentry (xj_set S 32 0 0) a ∧ (((r_m_isSentry (xj_set S 32 0 0) a) ≠ 0 → ((b < 0 → (d_m_within (xj_set S 32 0 0) (b - 100) 3 ∧ (((r_m_within (xj_set S 32 0 0) (b - 100) 3) ≠ 0 → (vp_in a 16 ∧ (vp_in ((2 * a) + (S 38 a.toNatClampNeg)) 32 ∧ (vp_in ((2 * a) + (S 38 a.toNatClampNeg)) 32 ∧ (vp_in a 16 ∧ (vp_in a 16 ∧ (vp_in a 16 ∧ (True)))))))) ∧ (¬ ((r_m_within (xj_set S 32 0 0) (b - 100) 3) ≠ 0) → (d_m_fail 2 (xj_set S 32 0 0) ∧ (match f_m_fail 2 (xj_set S 32 0 0) with | (v8, S8) => True)))))) ∧ (¬ (b < 0) → (((S 32 1) ≤ b → (d_m_within (xj_set S 32 0 0) (b - 100) 3 ∧ (((r_m_within (xj_set S 32 0 0) (b - 100) 3) ≠ 0 → (vp_in a 16 ∧ (vp_in ((2 * a) + (S 38 a.toNatClampNeg)) 32 ∧ (vp_in ((2 * a) + (S 38 a.toNatClampNeg)) 32 ∧ (vp_in a 16 ∧ (vp_in a 16 ∧ (vp_in a 16 ∧ (True)))))))) ∧ (¬ ((r_m_within (xj_set S 32 0 0) (b - 100) 3) ≠ 0) → (d_m_fail 2 (xj_set S 32 0 0) ∧ (match f_m_fail 2 (xj_set S 32 0 0) with | (v9, S9) => True)))))) ∧ (¬ ((S 32 1) ≤ b) → (vp_in a 16 ∧ ((b = (S 36 a.toNatClampNeg) → (d_m_fail 2 (xj_set S 32 0 0) ∧ (match f_m_fail 2 (xj_set S 32 0 0) with | (v10, S10) => True))) ∧ (¬ (b = (S 36 a.toNatClampNeg)) → (vp_in b 12 ∧ (vp_in a 16 ∧ (vp_in (S 36 a.toNatClampNeg) 12 ∧ (((S 34 b.toNatClampNeg) ≠ (S 34 (S 36 a.toNatClampNeg).toNatClampNeg) → (d_m_fail 2 (xj_set S 32 0 0) ∧ (match f_m_fail 2 (xj_set S 32 0 0) with | (v11, S11) => True))) ∧ (¬ ((S 34 b.toNatClampNeg) ≠ (S 34 (S 36 a.toNatClampNeg).toNatClampNeg)) → (d_m_within (xj_set S 32 0 0) c 9 ∧ (((r_m_within (xj_set S 32 0 0) c 9) ≠ 0 → (vp_in a 16 ∧ (vp_in ((2 * a) + (S 38 a.toNatClampNeg)) 32 ∧ (vp_in ((2 * a) + (S 38 a.toNatClampNeg)) 32 ∧ (vp_in a 16 ∧ (vp_in a 16 ∧ (vp_in a 16 ∧ (True)))))))) ∧ (¬ ((r_m_within (xj_set S 32 0 0) c 9) ≠ 0) → (d_m_fail 2 (xj_set S 32 0 0) ∧ (match f_m_fail 2 (xj_set S 32 0 0) with | (v12, S12) => True)))))))))))))))))) ∧ (¬ ((r_m_isSentry (xj_set S 32 0 0) a) ≠ 0) → (d_m_fail 2 (xj_set S 32 0 0) ∧ (match f_m_fail 2 (xj_set S 32 0 0) with | (v13, S13) => True)))))) ∧ (¬ ((S 38 a.toNatClampNeg) ≠ 2) → (d_m_fail 1 (xj_set S 32 0 0) ∧ (match f_m_fail 1 (xj_set S 32 0 0) with | (v14, S14) => True)))))))))
seal f_m_on d_m_on
set_option maxHeartbeats 4000000 in
set_option maxRecDepth 100000 in
theorem ok_m_on {L : Nat} {xs : Nat → Int32} {T : Nat → Nat → Int64} {D : Nat} {S : (Nat → Nat → Int32)} {P : (Option Value ⊕ Nat) → xj_W → Nat → Nat → Prop} {a b c : Int32} (hD : 1 ≤ D) (hd : d_m_on a b c S) (h : ∀ v S9, (v, S9) = f_m_on a b c S → P (.inl (some (.int v))) (SH, S9, T) 0 0) : xj_E (xX L xs) D 74 0 [(0, .ref 32), (1, .int a), (2, .int b), (3, .int c)] [] (SH, S, T) P := by
  unfold d_m_on at hd
  unfold f_m_on at h
  obtain ⟨D1, rfl⟩ : ∃ D1, D = D1 + 1 := ⟨D - 1, by omega⟩
  refine xj_E.adv 6 (pc' := (if xj_cmp .ne (S 32 15) 0 = true then 30 else 12)) (ls' := [(0, .ref 32), (1, .int a), (2, .int b), (3, .int c)]) (st' := []) (w' := (SH, (xj_set S 32 0 0), T)) rfl ?_
  refine xj_E.b_ne (fun q => ?_) (fun q => ?_)
  · have hd := hd.1 q
    have h := fun v S9 e => h v S9 (Eq.trans e (if_pos q).symm)
    refine xj_E.adv 2 (pc' := 32) (ls' := [(0, .ref 32), (1, .int a), (2, .int b), (3, .int c)]) (st' := [.int 1, .ref 32]) (w' := (SH, (xj_set S 32 0 0), T)) rfl ?_
    refine xj_E.calli (d := D1) (S := SH) rfl rfl rfl rfl rfl (ok_m_fail (by omega) hd.1 ?_)
    intro v1 S1 e1
    refine ⟨_, _, _, rfl, rfl, rfl, rfl, ?_⟩
    have hd := hd.2
    rw [← e1] at hd h
    exact xj_E.ret rfl rfl rfl rfl (h _ _ rfl)
  · have hd := hd.2 q
    have h := fun v S9 e => h v S9 (Eq.trans e (if_neg q).symm)
    refine xj_E.adv 2 (pc' := 14) (ls' := [(0, .ref 32), (1, .int a), (2, .int b), (3, .int c)]) (st' := [.int a, .ref 32]) (w' := (SH, (xj_set S 32 0 0), T)) rfl ?_
    refine xj_E.calli (d := D1) (S := SH) rfl rfl rfl rfl rfl (xj_E.deep (ok_m_isSentry (d := 0) hd.1 ?_) (by omega))
    intro v e
    subst e
    refine ⟨_, _, _, rfl, rfl, rfl, rfl, ?_⟩
    have hd := hd.2
    refine xj_E.adv 1 (pc' := (if xj_cmp .eq (r_m_isSentry (xj_set S 32 0 0) a) 0 = true then 36 else 20)) (ls' := [(0, .ref 32), (1, .int a), (2, .int b), (3, .int c)]) (st' := []) (w' := (SH, (xj_set S 32 0 0), T)) rfl ?_
    refine xj_E.b_eq (fun q => ?_) (fun q => ?_)
    · have hd := hd.1 q
      have h := fun v S9 e => h v S9 (Eq.trans e (if_pos q).symm)
      refine xj_E.adv 2 (pc' := 38) (ls' := [(0, .ref 32), (1, .int a), (2, .int b), (3, .int c)]) (st' := [.int a, .ref 32]) (w' := (SH, (xj_set S 32 0 0), T)) rfl ?_
      refine xj_E.calli (d := D1) (S := SH) rfl rfl rfl rfl rfl (xj_E.deep (ok_m_isSentry (d := 0) hd.1 ?_) (by omega))
      intro v e
      subst e
      refine ⟨_, _, _, rfl, rfl, rfl, rfl, ?_⟩
      have hd := hd.2
      refine xj_E.adv 1 (pc' := (if xj_cmp .ne (r_m_isSentry (xj_set S 32 0 0) a) 0 = true then 50 else 44)) (ls' := [(0, .ref 32), (1, .int a), (2, .int b), (3, .int c)]) (st' := []) (w' := (SH, (xj_set S 32 0 0), T)) rfl ?_
      refine xj_E.b_ne (fun q => ?_) (fun q => ?_)
      · have hd := hd.1 q
        have h := fun v S9 e => h v S9 (Eq.trans e (if_pos q).symm)
        refine xj_E.adv 2 (pc' := (if xj_cmp .lt b 0 = true then 66 else 54)) (ls' := [(0, .ref 32), (1, .int a), (2, .int b), (3, .int c)]) (st' := []) (w' := (SH, (xj_set S 32 0 0), T)) rfl ?_
        refine xj_E.b_lt (fun q => ?_) (fun q => ?_)
        · have hd := hd.1 q
          have h := fun v S9 e => h v S9 (Eq.trans e (if_pos q).symm)
          refine xj_E.adv 8 (pc' := 79) (ls' := [(4, .int 0), (0, .ref 32), (1, .int a), (2, .int b), (3, .int c)]) (st' := [.int 3, .int (b - 100)]) (w' := (SH, (xj_set S 32 0 0), T)) rfl ?_
          refine xj_E.calli (d := D1) (S := SH) rfl rfl rfl rfl rfl (xj_E.deep (ok_m_within (d := 0) hd.1 ?_) (by omega))
          intro v e
          subst e
          refine ⟨_, _, _, rfl, rfl, rfl, rfl, ?_⟩
          have hd := hd.2
          refine xj_E.adv 1 (pc' := (if xj_cmp .ne (r_m_within (xj_set S 32 0 0) (b - 100) 3) 0 = true then 91 else 85)) (ls' := [(4, .int 0), (0, .ref 32), (1, .int a), (2, .int b), (3, .int c)]) (st' := []) (w' := (SH, (xj_set S 32 0 0), T)) rfl ?_
          refine xj_E.b_ne (fun q => ?_) (fun q => ?_)
          · have hd := hd.1 q
            have h := fun v S9 e => h v S9 (Eq.trans e (if_pos q).symm)
            refine xj_E.adv 8 (pc' := 149) (ls' := [(4, .int 0), (0, .ref 32), (1, .int a), (2, .int b), (3, .int c)]) (st' := [.int a, .ref 38, .int (2 * a)]) (w' := (SH, (xj_set S 32 0 0), T)) rfl ?_
            refine xj_E.iald rfl rfl hd.1 ?_
            have hd := hd.2
            refine xj_E.adv 6 (pc' := 160) (ls' := [(5, .int ((2 * a) + (S 38 a.toNatClampNeg))), (4, .int 0), (0, .ref 32), (1, .int a), (2, .int b), (3, .int c)]) (st' := [.int b, .int ((2 * a) + (S 38 a.toNatClampNeg)), .ref 39]) (w' := (SH, (xj_set S 32 0 0), T)) rfl ?_
            refine xj_E.iast rfl rfl hd.1 ?_
            have hd := hd.2
            refine xj_E.adv 4 (pc' := 168) (ls' := [(5, .int ((2 * a) + (S 38 a.toNatClampNeg))), (4, .int 0), (0, .ref 32), (1, .int a), (2, .int b), (3, .int c)]) (st' := [.int c, .int ((2 * a) + (S 38 a.toNatClampNeg)), .ref 40]) (w' := (SH, (xj_set (xj_set S 32 0 0) 39 ((2 * a) + (S 38 a.toNatClampNeg)).toNatClampNeg b), T)) rfl ?_
            refine xj_E.iast rfl rfl hd.1 ?_
            have hd := hd.2
            refine xj_E.adv 4 (pc' := 175) (ls' := [(5, .int ((2 * a) + (S 38 a.toNatClampNeg))), (4, .int 0), (0, .ref 32), (1, .int a), (2, .int b), (3, .int c)]) (st' := [.int a, .ref 38, .int a, .ref 38]) (w' := (SH, (xj_set (xj_set (xj_set S 32 0 0) 39 ((2 * a) + (S 38 a.toNatClampNeg)).toNatClampNeg b) 40 ((2 * a) + (S 38 a.toNatClampNeg)).toNatClampNeg c), T)) rfl ?_
            refine xj_E.iald rfl rfl hd.1 ?_
            have hd := hd.2
            refine xj_E.adv 2 (pc' := 178) (ls' := [(5, .int ((2 * a) + (S 38 a.toNatClampNeg))), (4, .int 0), (0, .ref 32), (1, .int a), (2, .int b), (3, .int c)]) (st' := [.int ((S 38 a.toNatClampNeg) + 1), .int a, .ref 38]) (w' := (SH, (xj_set (xj_set (xj_set S 32 0 0) 39 ((2 * a) + (S 38 a.toNatClampNeg)).toNatClampNeg b) 40 ((2 * a) + (S 38 a.toNatClampNeg)).toNatClampNeg c), T)) rfl ?_
            refine xj_E.iast rfl rfl hd.1 ?_
            have hd := hd.2
            refine xj_E.adv 3 (pc' := 184) (ls' := [(5, .int ((2 * a) + (S 38 a.toNatClampNeg))), (4, .int 0), (0, .ref 32), (1, .int a), (2, .int b), (3, .int c)]) (st' := [.int a, .ref 38]) (w' := (SH, (xj_set (xj_set (xj_set (xj_set S 32 0 0) 39 ((2 * a) + (S 38 a.toNatClampNeg)).toNatClampNeg b) 40 ((2 * a) + (S 38 a.toNatClampNeg)).toNatClampNeg c) 38 a.toNatClampNeg ((S 38 a.toNatClampNeg) + 1)), T)) rfl ?_
            refine xj_E.iald rfl rfl hd.1 ?_
            have hd := hd.2
            exact xj_E.ret rfl rfl rfl rfl (h _ _ rfl)
          · have hd := hd.2 q
            have h := fun v S9 e => h v S9 (Eq.trans e (if_neg q).symm)
            refine xj_E.adv 2 (pc' := 87) (ls' := [(4, .int 0), (0, .ref 32), (1, .int a), (2, .int b), (3, .int c)]) (st' := [.int 2, .ref 32]) (w' := (SH, (xj_set S 32 0 0), T)) rfl ?_
            refine xj_E.calli (d := D1) (S := SH) rfl rfl rfl rfl rfl (ok_m_fail (by omega) hd.1 ?_)
            intro v2 S2 e2
            refine ⟨_, _, _, rfl, rfl, rfl, rfl, ?_⟩
            have hd := hd.2
            rw [← e2] at hd h
            exact xj_E.ret rfl rfl rfl rfl (h _ _ rfl)
        · have hd := hd.2 q
          have h := fun v S9 e => h v S9 (Eq.trans e (if_neg q).symm)
          refine xj_E.adv 4 (pc' := (if xj_cmp .ge b (S 32 1) = true then 66 else 62)) (ls' := [(0, .ref 32), (1, .int a), (2, .int b), (3, .int c)]) (st' := []) (w' := (SH, (xj_set S 32 0 0), T)) rfl ?_
          refine xj_E.b_ge (fun q => ?_) (fun q => ?_)
          · have hd := hd.1 q
            have h := fun v S9 e => h v S9 (Eq.trans e (if_pos q).symm)
            refine xj_E.adv 8 (pc' := 79) (ls' := [(4, .int 0), (0, .ref 32), (1, .int a), (2, .int b), (3, .int c)]) (st' := [.int 3, .int (b - 100)]) (w' := (SH, (xj_set S 32 0 0), T)) rfl ?_
            refine xj_E.calli (d := D1) (S := SH) rfl rfl rfl rfl rfl (xj_E.deep (ok_m_within (d := 0) hd.1 ?_) (by omega))
            intro v e
            subst e
            refine ⟨_, _, _, rfl, rfl, rfl, rfl, ?_⟩
            have hd := hd.2
            refine xj_E.adv 1 (pc' := (if xj_cmp .ne (r_m_within (xj_set S 32 0 0) (b - 100) 3) 0 = true then 91 else 85)) (ls' := [(4, .int 0), (0, .ref 32), (1, .int a), (2, .int b), (3, .int c)]) (st' := []) (w' := (SH, (xj_set S 32 0 0), T)) rfl ?_
            refine xj_E.b_ne (fun q => ?_) (fun q => ?_)
            · have hd := hd.1 q
              have h := fun v S9 e => h v S9 (Eq.trans e (if_pos q).symm)
              refine xj_E.adv 8 (pc' := 149) (ls' := [(4, .int 0), (0, .ref 32), (1, .int a), (2, .int b), (3, .int c)]) (st' := [.int a, .ref 38, .int (2 * a)]) (w' := (SH, (xj_set S 32 0 0), T)) rfl ?_
              refine xj_E.iald rfl rfl hd.1 ?_
              have hd := hd.2
              refine xj_E.adv 6 (pc' := 160) (ls' := [(5, .int ((2 * a) + (S 38 a.toNatClampNeg))), (4, .int 0), (0, .ref 32), (1, .int a), (2, .int b), (3, .int c)]) (st' := [.int b, .int ((2 * a) + (S 38 a.toNatClampNeg)), .ref 39]) (w' := (SH, (xj_set S 32 0 0), T)) rfl ?_
              refine xj_E.iast rfl rfl hd.1 ?_
              have hd := hd.2
              refine xj_E.adv 4 (pc' := 168) (ls' := [(5, .int ((2 * a) + (S 38 a.toNatClampNeg))), (4, .int 0), (0, .ref 32), (1, .int a), (2, .int b), (3, .int c)]) (st' := [.int c, .int ((2 * a) + (S 38 a.toNatClampNeg)), .ref 40]) (w' := (SH, (xj_set (xj_set S 32 0 0) 39 ((2 * a) + (S 38 a.toNatClampNeg)).toNatClampNeg b), T)) rfl ?_
              refine xj_E.iast rfl rfl hd.1 ?_
              have hd := hd.2
              refine xj_E.adv 4 (pc' := 175) (ls' := [(5, .int ((2 * a) + (S 38 a.toNatClampNeg))), (4, .int 0), (0, .ref 32), (1, .int a), (2, .int b), (3, .int c)]) (st' := [.int a, .ref 38, .int a, .ref 38]) (w' := (SH, (xj_set (xj_set (xj_set S 32 0 0) 39 ((2 * a) + (S 38 a.toNatClampNeg)).toNatClampNeg b) 40 ((2 * a) + (S 38 a.toNatClampNeg)).toNatClampNeg c), T)) rfl ?_
              refine xj_E.iald rfl rfl hd.1 ?_
              have hd := hd.2
              refine xj_E.adv 2 (pc' := 178) (ls' := [(5, .int ((2 * a) + (S 38 a.toNatClampNeg))), (4, .int 0), (0, .ref 32), (1, .int a), (2, .int b), (3, .int c)]) (st' := [.int ((S 38 a.toNatClampNeg) + 1), .int a, .ref 38]) (w' := (SH, (xj_set (xj_set (xj_set S 32 0 0) 39 ((2 * a) + (S 38 a.toNatClampNeg)).toNatClampNeg b) 40 ((2 * a) + (S 38 a.toNatClampNeg)).toNatClampNeg c), T)) rfl ?_
              refine xj_E.iast rfl rfl hd.1 ?_
              have hd := hd.2
              refine xj_E.adv 3 (pc' := 184) (ls' := [(5, .int ((2 * a) + (S 38 a.toNatClampNeg))), (4, .int 0), (0, .ref 32), (1, .int a), (2, .int b), (3, .int c)]) (st' := [.int a, .ref 38]) (w' := (SH, (xj_set (xj_set (xj_set (xj_set S 32 0 0) 39 ((2 * a) + (S 38 a.toNatClampNeg)).toNatClampNeg b) 40 ((2 * a) + (S 38 a.toNatClampNeg)).toNatClampNeg c) 38 a.toNatClampNeg ((S 38 a.toNatClampNeg) + 1)), T)) rfl ?_
              refine xj_E.iald rfl rfl hd.1 ?_
              have hd := hd.2
              exact xj_E.ret rfl rfl rfl rfl (h _ _ rfl)
            · have hd := hd.2 q
              have h := fun v S9 e => h v S9 (Eq.trans e (if_neg q).symm)
              refine xj_E.adv 2 (pc' := 87) (ls' := [(4, .int 0), (0, .ref 32), (1, .int a), (2, .int b), (3, .int c)]) (st' := [.int 2, .ref 32]) (w' := (SH, (xj_set S 32 0 0), T)) rfl ?_
              refine xj_E.calli (d := D1) (S := SH) rfl rfl rfl rfl rfl (ok_m_fail (by omega) hd.1 ?_)
              intro v3 S3 e3
              refine ⟨_, _, _, rfl, rfl, rfl, rfl, ?_⟩
              have hd := hd.2
              rw [← e3] at hd h
              exact xj_E.ret rfl rfl rfl rfl (h _ _ rfl)
          · have hd := hd.2 q
            have h := fun v S9 e => h v S9 (Eq.trans e (if_neg q).symm)
            refine xj_E.adv 11 (pc' := 102) (ls' := [(4, .int 1), (0, .ref 32), (1, .int a), (2, .int b), (3, .int c)]) (st' := [.int a, .ref 36, .int b]) (w' := (SH, (xj_set S 32 0 0), T)) rfl ?_
            refine xj_E.iald rfl rfl hd.1 ?_
            have hd := hd.2
            refine xj_E.adv 1 (pc' := (if xj_cmp .eq b (S 36 a.toNatClampNeg) = true then 135 else 106)) (ls' := [(4, .int 1), (0, .ref 32), (1, .int a), (2, .int b), (3, .int c)]) (st' := []) (w' := (SH, (xj_set S 32 0 0), T)) rfl ?_
            refine xj_E.b_eq (fun q => ?_) (fun q => ?_)
            · have hd := hd.1 q
              have h := fun v S9 e => h v S9 (Eq.trans e (if_pos q).symm)
              refine xj_E.adv 2 (pc' := 137) (ls' := [(4, .int 1), (0, .ref 32), (1, .int a), (2, .int b), (3, .int c)]) (st' := [.int 2, .ref 32]) (w' := (SH, (xj_set S 32 0 0), T)) rfl ?_
              refine xj_E.calli (d := D1) (S := SH) rfl rfl rfl rfl rfl (ok_m_fail (by omega) hd.1 ?_)
              intro v4 S4 e4
              refine ⟨_, _, _, rfl, rfl, rfl, rfl, ?_⟩
              have hd := hd.2
              rw [← e4] at hd h
              exact xj_E.ret rfl rfl rfl rfl (h _ _ rfl)
            · have hd := hd.2 q
              have h := fun v S9 e => h v S9 (Eq.trans e (if_neg q).symm)
              refine xj_E.adv 3 (pc' := 111) (ls' := [(4, .int 1), (0, .ref 32), (1, .int a), (2, .int b), (3, .int c)]) (st' := [.int b, .ref 34]) (w' := (SH, (xj_set S 32 0 0), T)) rfl ?_
              refine xj_E.iald rfl rfl hd.1 ?_
              have hd := hd.2
              refine xj_E.adv 5 (pc' := 121) (ls' := [(4, .int 1), (0, .ref 32), (1, .int a), (2, .int b), (3, .int c)]) (st' := [.int a, .ref 36, .ref 34, .int (S 34 b.toNatClampNeg)]) (w' := (SH, (xj_set S 32 0 0), T)) rfl ?_
              refine xj_E.iald rfl rfl hd.1 ?_
              have hd := hd.2
              refine xj_E.iald rfl rfl hd.1 ?_
              have hd := hd.2
              refine xj_E.adv 1 (pc' := (if xj_cmp .ne (S 34 b.toNatClampNeg) (S 34 (S 36 a.toNatClampNeg).toNatClampNeg) = true then 135 else 126)) (ls' := [(4, .int 1), (0, .ref 32), (1, .int a), (2, .int b), (3, .int c)]) (st' := []) (w' := (SH, (xj_set S 32 0 0), T)) rfl ?_
              refine xj_E.b_ne (fun q => ?_) (fun q => ?_)
              · have hd := hd.1 q
                have h := fun v S9 e => h v S9 (Eq.trans e (if_pos q).symm)
                refine xj_E.adv 2 (pc' := 137) (ls' := [(4, .int 1), (0, .ref 32), (1, .int a), (2, .int b), (3, .int c)]) (st' := [.int 2, .ref 32]) (w' := (SH, (xj_set S 32 0 0), T)) rfl ?_
                refine xj_E.calli (d := D1) (S := SH) rfl rfl rfl rfl rfl (ok_m_fail (by omega) hd.1 ?_)
                intro v5 S5 e5
                refine ⟨_, _, _, rfl, rfl, rfl, rfl, ?_⟩
                have hd := hd.2
                rw [← e5] at hd h
                exact xj_E.ret rfl rfl rfl rfl (h _ _ rfl)
              · have hd := hd.2 q
                have h := fun v S9 e => h v S9 (Eq.trans e (if_neg q).symm)
                refine xj_E.adv 2 (pc' := 129) (ls' := [(4, .int 1), (0, .ref 32), (1, .int a), (2, .int b), (3, .int c)]) (st' := [.int 9, .int c]) (w' := (SH, (xj_set S 32 0 0), T)) rfl ?_
                refine xj_E.calli (d := D1) (S := SH) rfl rfl rfl rfl rfl (xj_E.deep (ok_m_within (d := 0) hd.1 ?_) (by omega))
                intro v e
                subst e
                refine ⟨_, _, _, rfl, rfl, rfl, rfl, ?_⟩
                have hd := hd.2
                refine xj_E.adv 1 (pc' := (if xj_cmp .ne (r_m_within (xj_set S 32 0 0) c 9) 0 = true then 141 else 135)) (ls' := [(4, .int 1), (0, .ref 32), (1, .int a), (2, .int b), (3, .int c)]) (st' := []) (w' := (SH, (xj_set S 32 0 0), T)) rfl ?_
                refine xj_E.b_ne (fun q => ?_) (fun q => ?_)
                · have hd := hd.1 q
                  have h := fun v S9 e => h v S9 (Eq.trans e (if_pos q).symm)
                  refine xj_E.adv 6 (pc' := 149) (ls' := [(4, .int 1), (0, .ref 32), (1, .int a), (2, .int b), (3, .int c)]) (st' := [.int a, .ref 38, .int (2 * a)]) (w' := (SH, (xj_set S 32 0 0), T)) rfl ?_
                  refine xj_E.iald rfl rfl hd.1 ?_
                  have hd := hd.2
                  refine xj_E.adv 6 (pc' := 160) (ls' := [(5, .int ((2 * a) + (S 38 a.toNatClampNeg))), (4, .int 1), (0, .ref 32), (1, .int a), (2, .int b), (3, .int c)]) (st' := [.int b, .int ((2 * a) + (S 38 a.toNatClampNeg)), .ref 39]) (w' := (SH, (xj_set S 32 0 0), T)) rfl ?_
                  refine xj_E.iast rfl rfl hd.1 ?_
                  have hd := hd.2
                  refine xj_E.adv 4 (pc' := 168) (ls' := [(5, .int ((2 * a) + (S 38 a.toNatClampNeg))), (4, .int 1), (0, .ref 32), (1, .int a), (2, .int b), (3, .int c)]) (st' := [.int c, .int ((2 * a) + (S 38 a.toNatClampNeg)), .ref 40]) (w' := (SH, (xj_set (xj_set S 32 0 0) 39 ((2 * a) + (S 38 a.toNatClampNeg)).toNatClampNeg b), T)) rfl ?_
                  refine xj_E.iast rfl rfl hd.1 ?_
                  have hd := hd.2
                  refine xj_E.adv 4 (pc' := 175) (ls' := [(5, .int ((2 * a) + (S 38 a.toNatClampNeg))), (4, .int 1), (0, .ref 32), (1, .int a), (2, .int b), (3, .int c)]) (st' := [.int a, .ref 38, .int a, .ref 38]) (w' := (SH, (xj_set (xj_set (xj_set S 32 0 0) 39 ((2 * a) + (S 38 a.toNatClampNeg)).toNatClampNeg b) 40 ((2 * a) + (S 38 a.toNatClampNeg)).toNatClampNeg c), T)) rfl ?_
                  refine xj_E.iald rfl rfl hd.1 ?_
                  have hd := hd.2
                  refine xj_E.adv 2 (pc' := 178) (ls' := [(5, .int ((2 * a) + (S 38 a.toNatClampNeg))), (4, .int 1), (0, .ref 32), (1, .int a), (2, .int b), (3, .int c)]) (st' := [.int ((S 38 a.toNatClampNeg) + 1), .int a, .ref 38]) (w' := (SH, (xj_set (xj_set (xj_set S 32 0 0) 39 ((2 * a) + (S 38 a.toNatClampNeg)).toNatClampNeg b) 40 ((2 * a) + (S 38 a.toNatClampNeg)).toNatClampNeg c), T)) rfl ?_
                  refine xj_E.iast rfl rfl hd.1 ?_
                  have hd := hd.2
                  refine xj_E.adv 3 (pc' := 184) (ls' := [(5, .int ((2 * a) + (S 38 a.toNatClampNeg))), (4, .int 1), (0, .ref 32), (1, .int a), (2, .int b), (3, .int c)]) (st' := [.int a, .ref 38]) (w' := (SH, (xj_set (xj_set (xj_set (xj_set S 32 0 0) 39 ((2 * a) + (S 38 a.toNatClampNeg)).toNatClampNeg b) 40 ((2 * a) + (S 38 a.toNatClampNeg)).toNatClampNeg c) 38 a.toNatClampNeg ((S 38 a.toNatClampNeg) + 1)), T)) rfl ?_
                  refine xj_E.iald rfl rfl hd.1 ?_
                  have hd := hd.2
                  exact xj_E.ret rfl rfl rfl rfl (h _ _ rfl)
                · have hd := hd.2 q
                  have h := fun v S9 e => h v S9 (Eq.trans e (if_neg q).symm)
                  refine xj_E.adv 2 (pc' := 137) (ls' := [(4, .int 1), (0, .ref 32), (1, .int a), (2, .int b), (3, .int c)]) (st' := [.int 2, .ref 32]) (w' := (SH, (xj_set S 32 0 0), T)) rfl ?_
                  refine xj_E.calli (d := D1) (S := SH) rfl rfl rfl rfl rfl (ok_m_fail (by omega) hd.1 ?_)
                  intro v6 S6 e6
                  refine ⟨_, _, _, rfl, rfl, rfl, rfl, ?_⟩
                  have hd := hd.2
                  rw [← e6] at hd h
                  exact xj_E.ret rfl rfl rfl rfl (h _ _ rfl)
      · have hd := hd.2 q
        have h := fun v S9 e => h v S9 (Eq.trans e (if_neg q).symm)
        refine xj_E.adv 2 (pc' := 46) (ls' := [(0, .ref 32), (1, .int a), (2, .int b), (3, .int c)]) (st' := [.int 2, .ref 32]) (w' := (SH, (xj_set S 32 0 0), T)) rfl ?_
        refine xj_E.calli (d := D1) (S := SH) rfl rfl rfl rfl rfl (ok_m_fail (by omega) hd.1 ?_)
        intro v7 S7 e7
        refine ⟨_, _, _, rfl, rfl, rfl, rfl, ?_⟩
        have hd := hd.2
        rw [← e7] at hd h
        exact xj_E.ret rfl rfl rfl rfl (h _ _ rfl)
    · have hd := hd.2 q
      have h := fun v S9 e => h v S9 (Eq.trans e (if_neg q).symm)
      refine xj_E.adv 3 (pc' := 25) (ls' := [(0, .ref 32), (1, .int a), (2, .int b), (3, .int c)]) (st' := [.int a, .ref 38]) (w' := (SH, (xj_set S 32 0 0), T)) rfl ?_
      refine xj_E.iald rfl rfl hd.1 ?_
      have hd := hd.2
      refine xj_E.adv 2 (pc' := (if xj_cmp .ne (S 38 a.toNatClampNeg) 2 = true then 36 else 30)) (ls' := [(0, .ref 32), (1, .int a), (2, .int b), (3, .int c)]) (st' := []) (w' := (SH, (xj_set S 32 0 0), T)) rfl ?_
      refine xj_E.b_ne (fun q => ?_) (fun q => ?_)
      · have hd := hd.1 q
        have h := fun v S9 e => h v S9 (Eq.trans e (if_pos q).symm)
        refine xj_E.adv 2 (pc' := 38) (ls' := [(0, .ref 32), (1, .int a), (2, .int b), (3, .int c)]) (st' := [.int a, .ref 32]) (w' := (SH, (xj_set S 32 0 0), T)) rfl ?_
        refine xj_E.calli (d := D1) (S := SH) rfl rfl rfl rfl rfl (xj_E.deep (ok_m_isSentry (d := 0) hd.1 ?_) (by omega))
        intro v e
        subst e
        refine ⟨_, _, _, rfl, rfl, rfl, rfl, ?_⟩
        have hd := hd.2
        refine xj_E.adv 1 (pc' := (if xj_cmp .ne (r_m_isSentry (xj_set S 32 0 0) a) 0 = true then 50 else 44)) (ls' := [(0, .ref 32), (1, .int a), (2, .int b), (3, .int c)]) (st' := []) (w' := (SH, (xj_set S 32 0 0), T)) rfl ?_
        refine xj_E.b_ne (fun q => ?_) (fun q => ?_)
        · have hd := hd.1 q
          have h := fun v S9 e => h v S9 (Eq.trans e (if_pos q).symm)
          refine xj_E.adv 2 (pc' := (if xj_cmp .lt b 0 = true then 66 else 54)) (ls' := [(0, .ref 32), (1, .int a), (2, .int b), (3, .int c)]) (st' := []) (w' := (SH, (xj_set S 32 0 0), T)) rfl ?_
          refine xj_E.b_lt (fun q => ?_) (fun q => ?_)
          · have hd := hd.1 q
            have h := fun v S9 e => h v S9 (Eq.trans e (if_pos q).symm)
            refine xj_E.adv 8 (pc' := 79) (ls' := [(4, .int 0), (0, .ref 32), (1, .int a), (2, .int b), (3, .int c)]) (st' := [.int 3, .int (b - 100)]) (w' := (SH, (xj_set S 32 0 0), T)) rfl ?_
            refine xj_E.calli (d := D1) (S := SH) rfl rfl rfl rfl rfl (xj_E.deep (ok_m_within (d := 0) hd.1 ?_) (by omega))
            intro v e
            subst e
            refine ⟨_, _, _, rfl, rfl, rfl, rfl, ?_⟩
            have hd := hd.2
            refine xj_E.adv 1 (pc' := (if xj_cmp .ne (r_m_within (xj_set S 32 0 0) (b - 100) 3) 0 = true then 91 else 85)) (ls' := [(4, .int 0), (0, .ref 32), (1, .int a), (2, .int b), (3, .int c)]) (st' := []) (w' := (SH, (xj_set S 32 0 0), T)) rfl ?_
            refine xj_E.b_ne (fun q => ?_) (fun q => ?_)
            · have hd := hd.1 q
              have h := fun v S9 e => h v S9 (Eq.trans e (if_pos q).symm)
              refine xj_E.adv 8 (pc' := 149) (ls' := [(4, .int 0), (0, .ref 32), (1, .int a), (2, .int b), (3, .int c)]) (st' := [.int a, .ref 38, .int (2 * a)]) (w' := (SH, (xj_set S 32 0 0), T)) rfl ?_
              refine xj_E.iald rfl rfl hd.1 ?_
              have hd := hd.2
              refine xj_E.adv 6 (pc' := 160) (ls' := [(5, .int ((2 * a) + (S 38 a.toNatClampNeg))), (4, .int 0), (0, .ref 32), (1, .int a), (2, .int b), (3, .int c)]) (st' := [.int b, .int ((2 * a) + (S 38 a.toNatClampNeg)), .ref 39]) (w' := (SH, (xj_set S 32 0 0), T)) rfl ?_
              refine xj_E.iast rfl rfl hd.1 ?_
              have hd := hd.2
              refine xj_E.adv 4 (pc' := 168) (ls' := [(5, .int ((2 * a) + (S 38 a.toNatClampNeg))), (4, .int 0), (0, .ref 32), (1, .int a), (2, .int b), (3, .int c)]) (st' := [.int c, .int ((2 * a) + (S 38 a.toNatClampNeg)), .ref 40]) (w' := (SH, (xj_set (xj_set S 32 0 0) 39 ((2 * a) + (S 38 a.toNatClampNeg)).toNatClampNeg b), T)) rfl ?_
              refine xj_E.iast rfl rfl hd.1 ?_
              have hd := hd.2
              refine xj_E.adv 4 (pc' := 175) (ls' := [(5, .int ((2 * a) + (S 38 a.toNatClampNeg))), (4, .int 0), (0, .ref 32), (1, .int a), (2, .int b), (3, .int c)]) (st' := [.int a, .ref 38, .int a, .ref 38]) (w' := (SH, (xj_set (xj_set (xj_set S 32 0 0) 39 ((2 * a) + (S 38 a.toNatClampNeg)).toNatClampNeg b) 40 ((2 * a) + (S 38 a.toNatClampNeg)).toNatClampNeg c), T)) rfl ?_
              refine xj_E.iald rfl rfl hd.1 ?_
              have hd := hd.2
              refine xj_E.adv 2 (pc' := 178) (ls' := [(5, .int ((2 * a) + (S 38 a.toNatClampNeg))), (4, .int 0), (0, .ref 32), (1, .int a), (2, .int b), (3, .int c)]) (st' := [.int ((S 38 a.toNatClampNeg) + 1), .int a, .ref 38]) (w' := (SH, (xj_set (xj_set (xj_set S 32 0 0) 39 ((2 * a) + (S 38 a.toNatClampNeg)).toNatClampNeg b) 40 ((2 * a) + (S 38 a.toNatClampNeg)).toNatClampNeg c), T)) rfl ?_
              refine xj_E.iast rfl rfl hd.1 ?_
              have hd := hd.2
              refine xj_E.adv 3 (pc' := 184) (ls' := [(5, .int ((2 * a) + (S 38 a.toNatClampNeg))), (4, .int 0), (0, .ref 32), (1, .int a), (2, .int b), (3, .int c)]) (st' := [.int a, .ref 38]) (w' := (SH, (xj_set (xj_set (xj_set (xj_set S 32 0 0) 39 ((2 * a) + (S 38 a.toNatClampNeg)).toNatClampNeg b) 40 ((2 * a) + (S 38 a.toNatClampNeg)).toNatClampNeg c) 38 a.toNatClampNeg ((S 38 a.toNatClampNeg) + 1)), T)) rfl ?_
              refine xj_E.iald rfl rfl hd.1 ?_
              have hd := hd.2
              exact xj_E.ret rfl rfl rfl rfl (h _ _ rfl)
            · have hd := hd.2 q
              have h := fun v S9 e => h v S9 (Eq.trans e (if_neg q).symm)
              refine xj_E.adv 2 (pc' := 87) (ls' := [(4, .int 0), (0, .ref 32), (1, .int a), (2, .int b), (3, .int c)]) (st' := [.int 2, .ref 32]) (w' := (SH, (xj_set S 32 0 0), T)) rfl ?_
              refine xj_E.calli (d := D1) (S := SH) rfl rfl rfl rfl rfl (ok_m_fail (by omega) hd.1 ?_)
              intro v8 S8 e8
              refine ⟨_, _, _, rfl, rfl, rfl, rfl, ?_⟩
              have hd := hd.2
              rw [← e8] at hd h
              exact xj_E.ret rfl rfl rfl rfl (h _ _ rfl)
          · have hd := hd.2 q
            have h := fun v S9 e => h v S9 (Eq.trans e (if_neg q).symm)
            refine xj_E.adv 4 (pc' := (if xj_cmp .ge b (S 32 1) = true then 66 else 62)) (ls' := [(0, .ref 32), (1, .int a), (2, .int b), (3, .int c)]) (st' := []) (w' := (SH, (xj_set S 32 0 0), T)) rfl ?_
            refine xj_E.b_ge (fun q => ?_) (fun q => ?_)
            · have hd := hd.1 q
              have h := fun v S9 e => h v S9 (Eq.trans e (if_pos q).symm)
              refine xj_E.adv 8 (pc' := 79) (ls' := [(4, .int 0), (0, .ref 32), (1, .int a), (2, .int b), (3, .int c)]) (st' := [.int 3, .int (b - 100)]) (w' := (SH, (xj_set S 32 0 0), T)) rfl ?_
              refine xj_E.calli (d := D1) (S := SH) rfl rfl rfl rfl rfl (xj_E.deep (ok_m_within (d := 0) hd.1 ?_) (by omega))
              intro v e
              subst e
              refine ⟨_, _, _, rfl, rfl, rfl, rfl, ?_⟩
              have hd := hd.2
              refine xj_E.adv 1 (pc' := (if xj_cmp .ne (r_m_within (xj_set S 32 0 0) (b - 100) 3) 0 = true then 91 else 85)) (ls' := [(4, .int 0), (0, .ref 32), (1, .int a), (2, .int b), (3, .int c)]) (st' := []) (w' := (SH, (xj_set S 32 0 0), T)) rfl ?_
              refine xj_E.b_ne (fun q => ?_) (fun q => ?_)
              · have hd := hd.1 q
                have h := fun v S9 e => h v S9 (Eq.trans e (if_pos q).symm)
                refine xj_E.adv 8 (pc' := 149) (ls' := [(4, .int 0), (0, .ref 32), (1, .int a), (2, .int b), (3, .int c)]) (st' := [.int a, .ref 38, .int (2 * a)]) (w' := (SH, (xj_set S 32 0 0), T)) rfl ?_
                refine xj_E.iald rfl rfl hd.1 ?_
                have hd := hd.2
                refine xj_E.adv 6 (pc' := 160) (ls' := [(5, .int ((2 * a) + (S 38 a.toNatClampNeg))), (4, .int 0), (0, .ref 32), (1, .int a), (2, .int b), (3, .int c)]) (st' := [.int b, .int ((2 * a) + (S 38 a.toNatClampNeg)), .ref 39]) (w' := (SH, (xj_set S 32 0 0), T)) rfl ?_
                refine xj_E.iast rfl rfl hd.1 ?_
                have hd := hd.2
                refine xj_E.adv 4 (pc' := 168) (ls' := [(5, .int ((2 * a) + (S 38 a.toNatClampNeg))), (4, .int 0), (0, .ref 32), (1, .int a), (2, .int b), (3, .int c)]) (st' := [.int c, .int ((2 * a) + (S 38 a.toNatClampNeg)), .ref 40]) (w' := (SH, (xj_set (xj_set S 32 0 0) 39 ((2 * a) + (S 38 a.toNatClampNeg)).toNatClampNeg b), T)) rfl ?_
                refine xj_E.iast rfl rfl hd.1 ?_
                have hd := hd.2
                refine xj_E.adv 4 (pc' := 175) (ls' := [(5, .int ((2 * a) + (S 38 a.toNatClampNeg))), (4, .int 0), (0, .ref 32), (1, .int a), (2, .int b), (3, .int c)]) (st' := [.int a, .ref 38, .int a, .ref 38]) (w' := (SH, (xj_set (xj_set (xj_set S 32 0 0) 39 ((2 * a) + (S 38 a.toNatClampNeg)).toNatClampNeg b) 40 ((2 * a) + (S 38 a.toNatClampNeg)).toNatClampNeg c), T)) rfl ?_
                refine xj_E.iald rfl rfl hd.1 ?_
                have hd := hd.2
                refine xj_E.adv 2 (pc' := 178) (ls' := [(5, .int ((2 * a) + (S 38 a.toNatClampNeg))), (4, .int 0), (0, .ref 32), (1, .int a), (2, .int b), (3, .int c)]) (st' := [.int ((S 38 a.toNatClampNeg) + 1), .int a, .ref 38]) (w' := (SH, (xj_set (xj_set (xj_set S 32 0 0) 39 ((2 * a) + (S 38 a.toNatClampNeg)).toNatClampNeg b) 40 ((2 * a) + (S 38 a.toNatClampNeg)).toNatClampNeg c), T)) rfl ?_
                refine xj_E.iast rfl rfl hd.1 ?_
                have hd := hd.2
                refine xj_E.adv 3 (pc' := 184) (ls' := [(5, .int ((2 * a) + (S 38 a.toNatClampNeg))), (4, .int 0), (0, .ref 32), (1, .int a), (2, .int b), (3, .int c)]) (st' := [.int a, .ref 38]) (w' := (SH, (xj_set (xj_set (xj_set (xj_set S 32 0 0) 39 ((2 * a) + (S 38 a.toNatClampNeg)).toNatClampNeg b) 40 ((2 * a) + (S 38 a.toNatClampNeg)).toNatClampNeg c) 38 a.toNatClampNeg ((S 38 a.toNatClampNeg) + 1)), T)) rfl ?_
                refine xj_E.iald rfl rfl hd.1 ?_
                have hd := hd.2
                exact xj_E.ret rfl rfl rfl rfl (h _ _ rfl)
              · have hd := hd.2 q
                have h := fun v S9 e => h v S9 (Eq.trans e (if_neg q).symm)
                refine xj_E.adv 2 (pc' := 87) (ls' := [(4, .int 0), (0, .ref 32), (1, .int a), (2, .int b), (3, .int c)]) (st' := [.int 2, .ref 32]) (w' := (SH, (xj_set S 32 0 0), T)) rfl ?_
                refine xj_E.calli (d := D1) (S := SH) rfl rfl rfl rfl rfl (ok_m_fail (by omega) hd.1 ?_)
                intro v9 S9 e9
                refine ⟨_, _, _, rfl, rfl, rfl, rfl, ?_⟩
                have hd := hd.2
                rw [← e9] at hd h
                exact xj_E.ret rfl rfl rfl rfl (h _ _ rfl)
            · have hd := hd.2 q
              have h := fun v S9 e => h v S9 (Eq.trans e (if_neg q).symm)
              refine xj_E.adv 11 (pc' := 102) (ls' := [(4, .int 1), (0, .ref 32), (1, .int a), (2, .int b), (3, .int c)]) (st' := [.int a, .ref 36, .int b]) (w' := (SH, (xj_set S 32 0 0), T)) rfl ?_
              refine xj_E.iald rfl rfl hd.1 ?_
              have hd := hd.2
              refine xj_E.adv 1 (pc' := (if xj_cmp .eq b (S 36 a.toNatClampNeg) = true then 135 else 106)) (ls' := [(4, .int 1), (0, .ref 32), (1, .int a), (2, .int b), (3, .int c)]) (st' := []) (w' := (SH, (xj_set S 32 0 0), T)) rfl ?_
              refine xj_E.b_eq (fun q => ?_) (fun q => ?_)
              · have hd := hd.1 q
                have h := fun v S9 e => h v S9 (Eq.trans e (if_pos q).symm)
                refine xj_E.adv 2 (pc' := 137) (ls' := [(4, .int 1), (0, .ref 32), (1, .int a), (2, .int b), (3, .int c)]) (st' := [.int 2, .ref 32]) (w' := (SH, (xj_set S 32 0 0), T)) rfl ?_
                refine xj_E.calli (d := D1) (S := SH) rfl rfl rfl rfl rfl (ok_m_fail (by omega) hd.1 ?_)
                intro v10 S10 e10
                refine ⟨_, _, _, rfl, rfl, rfl, rfl, ?_⟩
                have hd := hd.2
                rw [← e10] at hd h
                exact xj_E.ret rfl rfl rfl rfl (h _ _ rfl)
              · have hd := hd.2 q
                have h := fun v S9 e => h v S9 (Eq.trans e (if_neg q).symm)
                refine xj_E.adv 3 (pc' := 111) (ls' := [(4, .int 1), (0, .ref 32), (1, .int a), (2, .int b), (3, .int c)]) (st' := [.int b, .ref 34]) (w' := (SH, (xj_set S 32 0 0), T)) rfl ?_
                refine xj_E.iald rfl rfl hd.1 ?_
                have hd := hd.2
                refine xj_E.adv 5 (pc' := 121) (ls' := [(4, .int 1), (0, .ref 32), (1, .int a), (2, .int b), (3, .int c)]) (st' := [.int a, .ref 36, .ref 34, .int (S 34 b.toNatClampNeg)]) (w' := (SH, (xj_set S 32 0 0), T)) rfl ?_
                refine xj_E.iald rfl rfl hd.1 ?_
                have hd := hd.2
                refine xj_E.iald rfl rfl hd.1 ?_
                have hd := hd.2
                refine xj_E.adv 1 (pc' := (if xj_cmp .ne (S 34 b.toNatClampNeg) (S 34 (S 36 a.toNatClampNeg).toNatClampNeg) = true then 135 else 126)) (ls' := [(4, .int 1), (0, .ref 32), (1, .int a), (2, .int b), (3, .int c)]) (st' := []) (w' := (SH, (xj_set S 32 0 0), T)) rfl ?_
                refine xj_E.b_ne (fun q => ?_) (fun q => ?_)
                · have hd := hd.1 q
                  have h := fun v S9 e => h v S9 (Eq.trans e (if_pos q).symm)
                  refine xj_E.adv 2 (pc' := 137) (ls' := [(4, .int 1), (0, .ref 32), (1, .int a), (2, .int b), (3, .int c)]) (st' := [.int 2, .ref 32]) (w' := (SH, (xj_set S 32 0 0), T)) rfl ?_
                  refine xj_E.calli (d := D1) (S := SH) rfl rfl rfl rfl rfl (ok_m_fail (by omega) hd.1 ?_)
                  intro v11 S11 e11
                  refine ⟨_, _, _, rfl, rfl, rfl, rfl, ?_⟩
                  have hd := hd.2
                  rw [← e11] at hd h
                  exact xj_E.ret rfl rfl rfl rfl (h _ _ rfl)
                · have hd := hd.2 q
                  have h := fun v S9 e => h v S9 (Eq.trans e (if_neg q).symm)
                  refine xj_E.adv 2 (pc' := 129) (ls' := [(4, .int 1), (0, .ref 32), (1, .int a), (2, .int b), (3, .int c)]) (st' := [.int 9, .int c]) (w' := (SH, (xj_set S 32 0 0), T)) rfl ?_
                  refine xj_E.calli (d := D1) (S := SH) rfl rfl rfl rfl rfl (xj_E.deep (ok_m_within (d := 0) hd.1 ?_) (by omega))
                  intro v e
                  subst e
                  refine ⟨_, _, _, rfl, rfl, rfl, rfl, ?_⟩
                  have hd := hd.2
                  refine xj_E.adv 1 (pc' := (if xj_cmp .ne (r_m_within (xj_set S 32 0 0) c 9) 0 = true then 141 else 135)) (ls' := [(4, .int 1), (0, .ref 32), (1, .int a), (2, .int b), (3, .int c)]) (st' := []) (w' := (SH, (xj_set S 32 0 0), T)) rfl ?_
                  refine xj_E.b_ne (fun q => ?_) (fun q => ?_)
                  · have hd := hd.1 q
                    have h := fun v S9 e => h v S9 (Eq.trans e (if_pos q).symm)
                    refine xj_E.adv 6 (pc' := 149) (ls' := [(4, .int 1), (0, .ref 32), (1, .int a), (2, .int b), (3, .int c)]) (st' := [.int a, .ref 38, .int (2 * a)]) (w' := (SH, (xj_set S 32 0 0), T)) rfl ?_
                    refine xj_E.iald rfl rfl hd.1 ?_
                    have hd := hd.2
                    refine xj_E.adv 6 (pc' := 160) (ls' := [(5, .int ((2 * a) + (S 38 a.toNatClampNeg))), (4, .int 1), (0, .ref 32), (1, .int a), (2, .int b), (3, .int c)]) (st' := [.int b, .int ((2 * a) + (S 38 a.toNatClampNeg)), .ref 39]) (w' := (SH, (xj_set S 32 0 0), T)) rfl ?_
                    refine xj_E.iast rfl rfl hd.1 ?_
                    have hd := hd.2
                    refine xj_E.adv 4 (pc' := 168) (ls' := [(5, .int ((2 * a) + (S 38 a.toNatClampNeg))), (4, .int 1), (0, .ref 32), (1, .int a), (2, .int b), (3, .int c)]) (st' := [.int c, .int ((2 * a) + (S 38 a.toNatClampNeg)), .ref 40]) (w' := (SH, (xj_set (xj_set S 32 0 0) 39 ((2 * a) + (S 38 a.toNatClampNeg)).toNatClampNeg b), T)) rfl ?_
                    refine xj_E.iast rfl rfl hd.1 ?_
                    have hd := hd.2
                    refine xj_E.adv 4 (pc' := 175) (ls' := [(5, .int ((2 * a) + (S 38 a.toNatClampNeg))), (4, .int 1), (0, .ref 32), (1, .int a), (2, .int b), (3, .int c)]) (st' := [.int a, .ref 38, .int a, .ref 38]) (w' := (SH, (xj_set (xj_set (xj_set S 32 0 0) 39 ((2 * a) + (S 38 a.toNatClampNeg)).toNatClampNeg b) 40 ((2 * a) + (S 38 a.toNatClampNeg)).toNatClampNeg c), T)) rfl ?_
                    refine xj_E.iald rfl rfl hd.1 ?_
                    have hd := hd.2
                    refine xj_E.adv 2 (pc' := 178) (ls' := [(5, .int ((2 * a) + (S 38 a.toNatClampNeg))), (4, .int 1), (0, .ref 32), (1, .int a), (2, .int b), (3, .int c)]) (st' := [.int ((S 38 a.toNatClampNeg) + 1), .int a, .ref 38]) (w' := (SH, (xj_set (xj_set (xj_set S 32 0 0) 39 ((2 * a) + (S 38 a.toNatClampNeg)).toNatClampNeg b) 40 ((2 * a) + (S 38 a.toNatClampNeg)).toNatClampNeg c), T)) rfl ?_
                    refine xj_E.iast rfl rfl hd.1 ?_
                    have hd := hd.2
                    refine xj_E.adv 3 (pc' := 184) (ls' := [(5, .int ((2 * a) + (S 38 a.toNatClampNeg))), (4, .int 1), (0, .ref 32), (1, .int a), (2, .int b), (3, .int c)]) (st' := [.int a, .ref 38]) (w' := (SH, (xj_set (xj_set (xj_set (xj_set S 32 0 0) 39 ((2 * a) + (S 38 a.toNatClampNeg)).toNatClampNeg b) 40 ((2 * a) + (S 38 a.toNatClampNeg)).toNatClampNeg c) 38 a.toNatClampNeg ((S 38 a.toNatClampNeg) + 1)), T)) rfl ?_
                    refine xj_E.iald rfl rfl hd.1 ?_
                    have hd := hd.2
                    exact xj_E.ret rfl rfl rfl rfl (h _ _ rfl)
                  · have hd := hd.2 q
                    have h := fun v S9 e => h v S9 (Eq.trans e (if_neg q).symm)
                    refine xj_E.adv 2 (pc' := 137) (ls' := [(4, .int 1), (0, .ref 32), (1, .int a), (2, .int b), (3, .int c)]) (st' := [.int 2, .ref 32]) (w' := (SH, (xj_set S 32 0 0), T)) rfl ?_
                    refine xj_E.calli (d := D1) (S := SH) rfl rfl rfl rfl rfl (ok_m_fail (by omega) hd.1 ?_)
                    intro v12 S12 e12
                    refine ⟨_, _, _, rfl, rfl, rfl, rfl, ?_⟩
                    have hd := hd.2
                    rw [← e12] at hd h
                    exact xj_E.ret rfl rfl rfl rfl (h _ _ rfl)
        · have hd := hd.2 q
          have h := fun v S9 e => h v S9 (Eq.trans e (if_neg q).symm)
          refine xj_E.adv 2 (pc' := 46) (ls' := [(0, .ref 32), (1, .int a), (2, .int b), (3, .int c)]) (st' := [.int 2, .ref 32]) (w' := (SH, (xj_set S 32 0 0), T)) rfl ?_
          refine xj_E.calli (d := D1) (S := SH) rfl rfl rfl rfl rfl (ok_m_fail (by omega) hd.1 ?_)
          intro v13 S13 e13
          refine ⟨_, _, _, rfl, rfl, rfl, rfl, ?_⟩
          have hd := hd.2
          rw [← e13] at hd h
          exact xj_E.ret rfl rfl rfl rfl (h _ _ rfl)
      · have hd := hd.2 q
        have h := fun v S9 e => h v S9 (Eq.trans e (if_neg q).symm)
        refine xj_E.adv 2 (pc' := 32) (ls' := [(0, .ref 32), (1, .int a), (2, .int b), (3, .int c)]) (st' := [.int 1, .ref 32]) (w' := (SH, (xj_set S 32 0 0), T)) rfl ?_
        refine xj_E.calli (d := D1) (S := SH) rfl rfl rfl rfl rfl (ok_m_fail (by omega) hd.1 ?_)
        intro v14 S14 e14
        refine ⟨_, _, _, rfl, rfl, rfl, rfl, ?_⟩
        have hd := hd.2
        rw [← e14] at hd h
        exact xj_E.ret rfl rfl rfl rfl (h _ _ rfl)
def f_m_when (a : Int32) (b : Int32) (c : Int32) (d : Int32) (S : (Nat → Nat → Int32)) : Int32 × (Nat → Nat → Int32) := if (S 32 15) = 0 then (if (r_m_isSentry (xj_set S 32 0 0) a) = 0 then ((0, (xj_set (xj_set S 32 0 0) 32 0 2))) else (if (r_m_within (xj_set S 32 0 0) b 3) = 0 then ((0, (xj_set (xj_set S 32 0 0) 32 0 2))) else (if (r_m_within (xj_set S 32 0 0) c 2) ≠ 0 then ((0, (xj_set (xj_set (xj_set (xj_set (xj_set S 32 0 0) 41 a.toNatClampNeg (1 &&& 1)) 42 a.toNatClampNeg b) 43 a.toNatClampNeg c) 44 a.toNatClampNeg d))) else ((0, (xj_set (xj_set S 32 0 0) 32 0 2)))))) else ((0, (xj_set (xj_set S 32 0 0) 32 0 1)))
def d_m_when (a : Int32) (b : Int32) (c : Int32) (d : Int32) (S : (Nat → Nat → Int32)) : Prop := ((S 32 15) = 0 → (d_m_isSentry (xj_set S 32 0 0) a ∧ (((r_m_isSentry (xj_set S 32 0 0) a) = 0 → (True)) ∧ (¬ ((r_m_isSentry (xj_set S 32 0 0) a) = 0) → (d_m_within (xj_set S 32 0 0) b 3 ∧ (((r_m_within (xj_set S 32 0 0) b 3) = 0 → (True)) ∧ (¬ ((r_m_within (xj_set S 32 0 0) b 3) = 0) → (d_m_within (xj_set S 32 0 0) c 2 ∧ (((r_m_within (xj_set S 32 0 0) c 2) ≠ 0 → (vp_in a 16 ∧ (vp_in a 16 ∧ (vp_in a 16 ∧ (vp_in a 16 ∧ (True)))))) ∧ (¬ ((r_m_within (xj_set S 32 0 0) c 2) ≠ 0) → (True))))))))))) ∧ (¬ ((S 32 15) = 0) → (True))
seal f_m_when d_m_when
set_option maxHeartbeats 4000000 in
set_option maxRecDepth 100000 in
theorem ok_m_when {L : Nat} {xs : Nat → Int32} {T : Nat → Nat → Int64} {D : Nat} {S : (Nat → Nat → Int32)} {P : (Option Value ⊕ Nat) → xj_W → Nat → Nat → Prop} {a b c d : Int32} (hD : 1 ≤ D) (hd : d_m_when a b c d S) (h : ∀ v S9, (v, S9) = f_m_when a b c d S → P (.inl none) (SH, S9, T) 0 0) : xj_E (xX L xs) D 75 0 [(0, .ref 32), (1, .int a), (2, .int b), (3, .int c), (4, .int d)] [] (SH, S, T) P := by
  unfold d_m_when at hd
  unfold f_m_when at h
  obtain ⟨D1, rfl⟩ : ∃ D1, D = D1 + 1 := ⟨D - 1, by omega⟩
  refine xj_E.adv 6 (pc' := (if xj_cmp .eq (S 32 15) 0 = true then 18 else 12)) (ls' := [(0, .ref 32), (1, .int a), (2, .int b), (3, .int c), (4, .int d)]) (st' := []) (w' := (SH, (xj_set S 32 0 0), T)) rfl ?_
  refine xj_E.b_eq (fun q => ?_) (fun q => ?_)
  · have hd := hd.1 q
    have h := fun v S9 e => h v S9 (Eq.trans e (if_pos q).symm)
    refine xj_E.adv 2 (pc' := 20) (ls' := [(0, .ref 32), (1, .int a), (2, .int b), (3, .int c), (4, .int d)]) (st' := [.int a, .ref 32]) (w' := (SH, (xj_set S 32 0 0), T)) rfl ?_
    refine xj_E.calli (d := D1) (S := SH) rfl rfl rfl rfl rfl (xj_E.deep (ok_m_isSentry (d := 0) hd.1 ?_) (by omega))
    intro v e
    subst e
    refine ⟨_, _, _, rfl, rfl, rfl, rfl, ?_⟩
    have hd := hd.2
    refine xj_E.adv 1 (pc' := (if xj_cmp .eq (r_m_isSentry (xj_set S 32 0 0) a) 0 = true then 42 else 26)) (ls' := [(0, .ref 32), (1, .int a), (2, .int b), (3, .int c), (4, .int d)]) (st' := []) (w' := (SH, (xj_set S 32 0 0), T)) rfl ?_
    refine xj_E.b_eq (fun q => ?_) (fun q => ?_)
    · have hd := hd.1 q
      have h := fun v S9 e => h v S9 (Eq.trans e (if_pos q).symm)
      refine xj_E.adv 3 (pc' := 47) (ls' := [(0, .ref 32), (1, .int a), (2, .int b), (3, .int c), (4, .int d)]) (st' := []) (w' := (SH, (xj_set (xj_set S 32 0 0) 32 0 2), T)) rfl ?_
      exact xj_E.ret rfl rfl rfl rfl (h _ _ rfl)
    · have hd := hd.2 q
      have h := fun v S9 e => h v S9 (Eq.trans e (if_neg q).symm)
      refine xj_E.adv 2 (pc' := 28) (ls' := [(0, .ref 32), (1, .int a), (2, .int b), (3, .int c), (4, .int d)]) (st' := [.int 3, .int b]) (w' := (SH, (xj_set S 32 0 0), T)) rfl ?_
      refine xj_E.calli (d := D1) (S := SH) rfl rfl rfl rfl rfl (xj_E.deep (ok_m_within (d := 0) hd.1 ?_) (by omega))
      intro v e
      subst e
      refine ⟨_, _, _, rfl, rfl, rfl, rfl, ?_⟩
      have hd := hd.2
      refine xj_E.adv 1 (pc' := (if xj_cmp .eq (r_m_within (xj_set S 32 0 0) b 3) 0 = true then 42 else 34)) (ls' := [(0, .ref 32), (1, .int a), (2, .int b), (3, .int c), (4, .int d)]) (st' := []) (w' := (SH, (xj_set S 32 0 0), T)) rfl ?_
      refine xj_E.b_eq (fun q => ?_) (fun q => ?_)
      · have hd := hd.1 q
        have h := fun v S9 e => h v S9 (Eq.trans e (if_pos q).symm)
        refine xj_E.adv 3 (pc' := 47) (ls' := [(0, .ref 32), (1, .int a), (2, .int b), (3, .int c), (4, .int d)]) (st' := []) (w' := (SH, (xj_set (xj_set S 32 0 0) 32 0 2), T)) rfl ?_
        exact xj_E.ret rfl rfl rfl rfl (h _ _ rfl)
      · have hd := hd.2 q
        have h := fun v S9 e => h v S9 (Eq.trans e (if_neg q).symm)
        refine xj_E.adv 2 (pc' := 36) (ls' := [(0, .ref 32), (1, .int a), (2, .int b), (3, .int c), (4, .int d)]) (st' := [.int 2, .int c]) (w' := (SH, (xj_set S 32 0 0), T)) rfl ?_
        refine xj_E.calli (d := D1) (S := SH) rfl rfl rfl rfl rfl (xj_E.deep (ok_m_within (d := 0) hd.1 ?_) (by omega))
        intro v e
        subst e
        refine ⟨_, _, _, rfl, rfl, rfl, rfl, ?_⟩
        have hd := hd.2
        refine xj_E.adv 1 (pc' := (if xj_cmp .ne (r_m_within (xj_set S 32 0 0) c 2) 0 = true then 48 else 42)) (ls' := [(0, .ref 32), (1, .int a), (2, .int b), (3, .int c), (4, .int d)]) (st' := []) (w' := (SH, (xj_set S 32 0 0), T)) rfl ?_
        refine xj_E.b_ne (fun q => ?_) (fun q => ?_)
        · have hd := hd.1 q
          have h := fun v S9 e => h v S9 (Eq.trans e (if_pos q).symm)
          refine xj_E.adv 4 (pc' := 54) (ls' := [(0, .ref 32), (1, .int a), (2, .int b), (3, .int c), (4, .int d)]) (st' := [.int 1, .int a, .ref 41]) (w' := (SH, (xj_set S 32 0 0), T)) rfl ?_
          refine xj_E.bast rfl rfl hd.1 ?_
          have hd := hd.2
          refine xj_E.adv 4 (pc' := 61) (ls' := [(0, .ref 32), (1, .int a), (2, .int b), (3, .int c), (4, .int d)]) (st' := [.int b, .int a, .ref 42]) (w' := (SH, (xj_set (xj_set S 32 0 0) 41 a.toNatClampNeg (1 &&& 1)), T)) rfl ?_
          refine xj_E.iast rfl rfl hd.1 ?_
          have hd := hd.2
          refine xj_E.adv 4 (pc' := 68) (ls' := [(0, .ref 32), (1, .int a), (2, .int b), (3, .int c), (4, .int d)]) (st' := [.int c, .int a, .ref 43]) (w' := (SH, (xj_set (xj_set (xj_set S 32 0 0) 41 a.toNatClampNeg (1 &&& 1)) 42 a.toNatClampNeg b), T)) rfl ?_
          refine xj_E.iast rfl rfl hd.1 ?_
          have hd := hd.2
          refine xj_E.adv 4 (pc' := 76) (ls' := [(0, .ref 32), (1, .int a), (2, .int b), (3, .int c), (4, .int d)]) (st' := [.int d, .int a, .ref 44]) (w' := (SH, (xj_set (xj_set (xj_set (xj_set S 32 0 0) 41 a.toNatClampNeg (1 &&& 1)) 42 a.toNatClampNeg b) 43 a.toNatClampNeg c), T)) rfl ?_
          refine xj_E.iast rfl rfl hd.1 ?_
          have hd := hd.2
          exact xj_E.ret rfl rfl rfl rfl (h _ _ rfl)
        · have hd := hd.2 q
          have h := fun v S9 e => h v S9 (Eq.trans e (if_neg q).symm)
          refine xj_E.adv 3 (pc' := 47) (ls' := [(0, .ref 32), (1, .int a), (2, .int b), (3, .int c), (4, .int d)]) (st' := []) (w' := (SH, (xj_set (xj_set S 32 0 0) 32 0 2), T)) rfl ?_
          exact xj_E.ret rfl rfl rfl rfl (h _ _ rfl)
  · have hd := hd.2 q
    have h := fun v S9 e => h v S9 (Eq.trans e (if_neg q).symm)
    refine xj_E.adv 3 (pc' := 17) (ls' := [(0, .ref 32), (1, .int a), (2, .int b), (3, .int c), (4, .int d)]) (st' := []) (w' := (SH, (xj_set (xj_set S 32 0 0) 32 0 1), T)) rfl ?_
    exact xj_E.ret rfl rfl rfl rfl (h _ _ rfl)
def f_m_book (a : Int32) (b : Int32) (S : (Nat → Nat → Int32)) : Int32 × (Nat → Nat → Int32) := if (S 32 37) ≠ (S 32 16) then ((1, (xj_set (xj_set (xj_set (xj_set (xj_set S 32 37 ((S 32 37) + 1)) 51 ((S 32 24) - (S 32 24) / 48 * 48).toNatClampNeg a) 52 ((S 32 24) - (S 32 24) / 48 * 48).toNatClampNeg b) 32 24 ((S 32 24) + 1)) 48 a.toNatClampNeg ((S 48 a.toNatClampNeg) + 1)))) else ((0, (xj_set S 32 38 1)))
def d_m_book (a : Int32) (b : Int32) (S : (Nat → Nat → Int32)) : Prop := ((S 32 37) ≠ (S 32 16) → (vp_in ((S 32 24) - (S 32 24) / 48 * 48) 48 ∧ (vp_in ((S 32 24) - (S 32 24) / 48 * 48) 48 ∧ (vp_in a 40 ∧ (vp_in a 40 ∧ (True)))))) ∧ (¬ ((S 32 37) ≠ (S 32 16)) → (True))
seal f_m_book d_m_book
set_option maxHeartbeats 4000000 in
set_option maxRecDepth 100000 in
theorem ok_m_book {L : Nat} {xs : Nat → Int32} {T : Nat → Nat → Int64} {D : Nat} {S : (Nat → Nat → Int32)} {P : (Option Value ⊕ Nat) → xj_W → Nat → Nat → Prop} {a b : Int32} (hD : 0 ≤ D) (hd : d_m_book a b S) (h : ∀ v S9, (v, S9) = f_m_book a b S → P (.inl (some (.int v))) (SH, S9, T) 0 0) : xj_E (xX L xs) D 81 0 [(0, .ref 32), (1, .int a), (2, .int b)] [] (SH, S, T) P := by
  unfold d_m_book at hd
  unfold f_m_book at h
  refine xj_E.adv 5 (pc' := (if xj_cmp .ne (S 32 37) (S 32 16) = true then 18 else 11)) (ls' := [(0, .ref 32), (1, .int a), (2, .int b)]) (st' := []) (w' := (SH, S, T)) rfl ?_
  refine xj_E.b_ne (fun q => ?_) (fun q => ?_)
  · have hd := hd.1 q
    have h := fun v S9 e => h v S9 (Eq.trans e (if_pos q).symm)
    refine xj_E.adv 13 (pc' := 40) (ls' := [(0, .ref 32), (1, .int a), (2, .int b)]) (st' := [.int a, .int ((S 32 24) - (S 32 24) / 48 * 48), .ref 51]) (w' := (SH, (xj_set S 32 37 ((S 32 37) + 1)), T)) rfl ?_
    refine xj_E.iast rfl rfl hd.1 ?_
    have hd := hd.2
    refine xj_E.adv 7 (pc' := 53) (ls' := [(0, .ref 32), (1, .int a), (2, .int b)]) (st' := [.int b, .int ((S 32 24) - (S 32 24) / 48 * 48), .ref 52]) (w' := (SH, (xj_set (xj_set S 32 37 ((S 32 37) + 1)) 51 ((S 32 24) - (S 32 24) / 48 * 48).toNatClampNeg a), T)) rfl ?_
    refine xj_E.iast rfl rfl hd.1 ?_
    have hd := hd.2
    refine xj_E.adv 10 (pc' := 70) (ls' := [(0, .ref 32), (1, .int a), (2, .int b)]) (st' := [.int a, .ref 48, .int a, .ref 48]) (w' := (SH, (xj_set (xj_set (xj_set (xj_set S 32 37 ((S 32 37) + 1)) 51 ((S 32 24) - (S 32 24) / 48 * 48).toNatClampNeg a) 52 ((S 32 24) - (S 32 24) / 48 * 48).toNatClampNeg b) 32 24 ((S 32 24) + 1)), T)) rfl ?_
    refine xj_E.iald rfl rfl hd.1 ?_
    have hd := hd.2
    refine xj_E.adv 2 (pc' := 73) (ls' := [(0, .ref 32), (1, .int a), (2, .int b)]) (st' := [.int ((S 48 a.toNatClampNeg) + 1), .int a, .ref 48]) (w' := (SH, (xj_set (xj_set (xj_set (xj_set S 32 37 ((S 32 37) + 1)) 51 ((S 32 24) - (S 32 24) / 48 * 48).toNatClampNeg a) 52 ((S 32 24) - (S 32 24) / 48 * 48).toNatClampNeg b) 32 24 ((S 32 24) + 1)), T)) rfl ?_
    refine xj_E.iast rfl rfl hd.1 ?_
    have hd := hd.2
    refine xj_E.adv 1 (pc' := 75) (ls' := [(0, .ref 32), (1, .int a), (2, .int b)]) (st' := [.int 1]) (w' := (SH, (xj_set (xj_set (xj_set (xj_set (xj_set S 32 37 ((S 32 37) + 1)) 51 ((S 32 24) - (S 32 24) / 48 * 48).toNatClampNeg a) 52 ((S 32 24) - (S 32 24) / 48 * 48).toNatClampNeg b) 32 24 ((S 32 24) + 1)) 48 a.toNatClampNeg ((S 48 a.toNatClampNeg) + 1)), T)) rfl ?_
    exact xj_E.ret rfl rfl rfl rfl (h _ _ rfl)
  · have hd := hd.2 q
    have h := fun v S9 e => h v S9 (Eq.trans e (if_neg q).symm)
    refine xj_E.adv 4 (pc' := 17) (ls' := [(0, .ref 32), (1, .int a), (2, .int b)]) (st' := [.int 0]) (w' := (SH, (xj_set S 32 38 1), T)) rfl ?_
    exact xj_E.ret rfl rfl rfl rfl (h _ _ rfl)
def fk_m_mark : Nat → (Int32 → Int32 → Int32 → (Nat → Nat → Int32) → (Int32 × (Nat → Nat → Int32))) × (Int32 → Int32 → Int32 → Int32 → (Nat → Nat → Int32) → (Int32 × (Nat → Nat → Int32))) × (Int32 → Int32 → Int32 → Int32 → Int32 → (Nat → Nat → Int32) → (Int32 × (Nat → Nat → Int32)))
  | 0 => (fun _ _ _ S => (0, S), fun _ _ _ _ S => (0, S), fun _ _ _ _ _ S => (0, S))
  | n + 1 => (fun u1 u2 u3 S => if (S 32 17) ≤ u3 then ((0, S)) else (if u3 = u1 then ((fk_m_mark n).1 u1 u2 (u3 + 1) S) else (if (S 46 u3.toNatClampNeg) ≠ (S 46 u1.toNatClampNeg) then ((fk_m_mark n).1 u1 u2 (u3 + 1) S) else (if (r_m_isFinal S u3) = 0 then ((fk_m_mark n).2.1 u1 u2 u3 0 S) else ((fk_m_mark n).1 u1 u2 (u3 + 1) S)))),
    fun u1 u2 u3 u4 S => if (S 32 5) ≤ u4 then ((fk_m_mark n).1 u1 u2 (u3 + 1) S) else (if (S 36 u4.toNatClampNeg) = (S 45 u3.toNatClampNeg) then ((fk_m_mark n).2.2 u1 u2 u3 u4 0 S) else ((fk_m_mark n).2.1 u1 u2 u3 (u4 + 1) S)),
    fun u1 u2 u3 u4 u5 S => if (S 38 u4.toNatClampNeg) ≤ u5 then ((fk_m_mark n).2.1 u1 u2 u3 (u4 + 1) S) else (if (S 39 ((2 * u4) + u5).toNatClampNeg) ≠ (S 45 u1.toNatClampNeg) then ((fk_m_mark n).2.2 u1 u2 u3 u4 (u5 + 1) S) else (if (S 40 ((2 * u4) + u5).toNatClampNeg) ≠ u2 then ((fk_m_mark n).2.2 u1 u2 u3 u4 (u5 + 1) S) else ((fk_m_mark n).2.2 u1 u2 u3 u4 (u5 + 1) (xj_set S 49 u3.toNatClampNeg ((S 49 u3.toNatClampNeg) ||| (1 <<< (((2 * u4) + u5) &&& 31))))))))
def dk_m_mark : Nat → (Int32 → Int32 → Int32 → (Nat → Nat → Int32) → Prop) × (Int32 → Int32 → Int32 → Int32 → (Nat → Nat → Int32) → Prop) × (Int32 → Int32 → Int32 → Int32 → Int32 → (Nat → Nat → Int32) → Prop)
  | 0 => (fun _ _ _ S => False, fun _ _ _ _ S => False, fun _ _ _ _ _ S => False)
  | n + 1 => (fun u1 u2 u3 S => ((S 32 17) ≤ u3 → (True)) ∧ (¬ ((S 32 17) ≤ u3) → ((u3 = u1 → ((dk_m_mark n).1 u1 u2 (u3 + 1) S)) ∧ (¬ (u3 = u1) → (vp_in u3 40 ∧ (vp_in u1 40 ∧ (((S 46 u3.toNatClampNeg) ≠ (S 46 u1.toNatClampNeg) → ((dk_m_mark n).1 u1 u2 (u3 + 1) S)) ∧ (¬ ((S 46 u3.toNatClampNeg) ≠ (S 46 u1.toNatClampNeg)) → (d_m_isFinal S u3 ∧ (((r_m_isFinal S u3) = 0 → ((dk_m_mark n).2.1 u1 u2 u3 0 S)) ∧ (¬ ((r_m_isFinal S u3) = 0) → ((dk_m_mark n).1 u1 u2 (u3 + 1) S))))))))))),
    fun u1 u2 u3 u4 S => ((S 32 5) ≤ u4 → ((dk_m_mark n).1 u1 u2 (u3 + 1) S)) ∧ (¬ ((S 32 5) ≤ u4) → (vp_in u4 16 ∧ (vp_in u3 40 ∧ (((S 36 u4.toNatClampNeg) = (S 45 u3.toNatClampNeg) → ((dk_m_mark n).2.2 u1 u2 u3 u4 0 S)) ∧ (¬ ((S 36 u4.toNatClampNeg) = (S 45 u3.toNatClampNeg)) → ((dk_m_mark n).2.1 u1 u2 u3 (u4 + 1) S)))))),
    fun u1 u2 u3 u4 u5 S => vp_in u4 16 ∧ (((S 38 u4.toNatClampNeg) ≤ u5 → ((dk_m_mark n).2.1 u1 u2 u3 (u4 + 1) S)) ∧ (¬ ((S 38 u4.toNatClampNeg) ≤ u5) → (vp_in ((2 * u4) + u5) 32 ∧ (vp_in u1 40 ∧ (((S 39 ((2 * u4) + u5).toNatClampNeg) ≠ (S 45 u1.toNatClampNeg) → ((dk_m_mark n).2.2 u1 u2 u3 u4 (u5 + 1) S)) ∧ (¬ ((S 39 ((2 * u4) + u5).toNatClampNeg) ≠ (S 45 u1.toNatClampNeg)) → (vp_in ((2 * u4) + u5) 32 ∧ (((S 40 ((2 * u4) + u5).toNatClampNeg) ≠ u2 → ((dk_m_mark n).2.2 u1 u2 u3 u4 (u5 + 1) S)) ∧ (¬ ((S 40 ((2 * u4) + u5).toNatClampNeg) ≠ u2) → (vp_in u3 40 ∧ (vp_in u3 40 ∧ ((dk_m_mark n).2.2 u1 u2 u3 u4 (u5 + 1) (xj_set S 49 u3.toNatClampNeg ((S 49 u3.toNatClampNeg) ||| (1 <<< (((2 * u4) + u5) &&& 31)))))))))))))))))
set_option maxHeartbeats 4000000 in
set_option maxRecDepth 100000 in
theorem okk_m_mark {L : Nat} {xs : Nat → Int32} {T : Nat → Nat → Int64} (n : Nat) : (∀ (u1 : Int32) (u2 : Int32) (u3 : Int32) S D (P : (Option Value ⊕ Nat) → xj_W → Nat → Nat → Prop), 1 + n ≤ D → (dk_m_mark n).1 u1 u2 u3 S → (∀ v S9, (v, S9) = (fk_m_mark n).1 u1 u2 u3 S → P (.inl none) (SH, S9, T) 0 0) → xj_E (xX L xs) D 82 2 [(0, .ref 32), (1, .int u1), (2, .int u2), (3, .int u3)] [] (SH, S, T) P) ∧
    (∀ (u1 : Int32) (u2 : Int32) (u3 : Int32) (u4 : Int32) S D (P : (Option Value ⊕ Nat) → xj_W → Nat → Nat → Prop), 1 + n ≤ D → (dk_m_mark n).2.1 u1 u2 u3 u4 S → (∀ v S9, (v, S9) = (fk_m_mark n).2.1 u1 u2 u3 u4 S → P (.inl none) (SH, S9, T) 0 0) → xj_E (xX L xs) D 82 44 [(0, .ref 32), (1, .int u1), (2, .int u2), (3, .int u3), (4, .int u4)] [] (SH, S, T) P) ∧
    (∀ (u1 : Int32) (u2 : Int32) (u3 : Int32) (u4 : Int32) (u5 : Int32) S D (P : (Option Value ⊕ Nat) → xj_W → Nat → Nat → Prop), 1 + n ≤ D → (dk_m_mark n).2.2 u1 u2 u3 u4 u5 S → (∀ v S9, (v, S9) = (fk_m_mark n).2.2 u1 u2 u3 u4 u5 S → P (.inl none) (SH, S9, T) 0 0) → xj_E (xX L xs) D 82 75 [(0, .ref 32), (1, .int u1), (2, .int u2), (3, .int u3), (4, .int u4), (5, .int u5)] [] (SH, S, T) P) := by
  induction n with
  | zero => exact ⟨fun _ _ _ _ _ _ _ hd _ => hd.elim, fun _ _ _ _ _ _ _ _ hd _ => hd.elim, fun _ _ _ _ _ _ _ _ _ hd _ => hd.elim⟩
  | succ n ih =>
    refine ⟨?_, ?_, ?_⟩
    · intro u1 u2 u3 S D P hD hd h
      obtain ⟨D1, rfl⟩ : ∃ D1, D = D1 + 1 := ⟨D - 1, by omega⟩
      refine xj_E.adv 4 (pc' := (if xj_cmp .ge u3 (S 32 17) = true then 158 else 10)) (ls' := [(0, .ref 32), (1, .int u1), (2, .int u2), (3, .int u3)]) (st' := []) (w' := (SH, S, T)) rfl ?_
      refine xj_E.b_ge (fun q => ?_) (fun q => ?_)
      · have hd := hd.1 q
        have h := fun v S9 e => h v S9 (Eq.trans e (if_pos q).symm)
        exact xj_E.ret rfl rfl rfl rfl (h _ _ rfl)
      · have hd := hd.2 q
        have h := fun v S9 e => h v S9 (Eq.trans e (if_neg q).symm)
        refine xj_E.adv 3 (pc' := (if xj_cmp .eq u3 u1 = true then 152 else 15)) (ls' := [(0, .ref 32), (1, .int u1), (2, .int u2), (3, .int u3)]) (st' := []) (w' := (SH, S, T)) rfl ?_
        refine xj_E.b_eq (fun q => ?_) (fun q => ?_)
        · have hd := hd.1 q
          have h := fun v S9 e => h v S9 (Eq.trans e (if_pos q).symm)
          refine xj_E.adv 2 (pc' := 2) (ls' := [(3, .int (u3 + 1)), (0, .ref 32), (1, .int u1), (2, .int u2)]) (st' := []) (w' := (SH, S, T)) rfl ?_
          refine xj_E.loc [0, 1, 2, 3] xhth rfl (show xj_E (xX L xs) (D1 + 1) 82 2 [(0, .ref 32), (1, .int u1), (2, .int u2), (3, .int (u3 + 1))] [] (SH, S, T) P from ?_)
          exact (ih.1) _ _ _ _ _ _ (by omega) hd h
        · have hd := hd.2 q
          have h := fun v S9 e => h v S9 (Eq.trans e (if_neg q).symm)
          refine xj_E.adv 3 (pc' := 20) (ls' := [(0, .ref 32), (1, .int u1), (2, .int u2), (3, .int u3)]) (st' := [.int u3, .ref 46]) (w' := (SH, S, T)) rfl ?_
          refine xj_E.iald rfl rfl hd.1 ?_
          have hd := hd.2
          refine xj_E.adv 3 (pc' := 26) (ls' := [(0, .ref 32), (1, .int u1), (2, .int u2), (3, .int u3)]) (st' := [.int u1, .ref 46, .int (S 46 u3.toNatClampNeg)]) (w' := (SH, S, T)) rfl ?_
          refine xj_E.iald rfl rfl hd.1 ?_
          have hd := hd.2
          refine xj_E.adv 1 (pc' := (if xj_cmp .ne (S 46 u3.toNatClampNeg) (S 46 u1.toNatClampNeg) = true then 152 else 30)) (ls' := [(0, .ref 32), (1, .int u1), (2, .int u2), (3, .int u3)]) (st' := []) (w' := (SH, S, T)) rfl ?_
          refine xj_E.b_ne (fun q => ?_) (fun q => ?_)
          · have hd := hd.1 q
            have h := fun v S9 e => h v S9 (Eq.trans e (if_pos q).symm)
            refine xj_E.adv 2 (pc' := 2) (ls' := [(3, .int (u3 + 1)), (0, .ref 32), (1, .int u1), (2, .int u2)]) (st' := []) (w' := (SH, S, T)) rfl ?_
            refine xj_E.loc [0, 1, 2, 3] xhth rfl (show xj_E (xX L xs) (D1 + 1) 82 2 [(0, .ref 32), (1, .int u1), (2, .int u2), (3, .int (u3 + 1))] [] (SH, S, T) P from ?_)
            exact (ih.1) _ _ _ _ _ _ (by omega) hd h
          · have hd := hd.2 q
            have h := fun v S9 e => h v S9 (Eq.trans e (if_neg q).symm)
            refine xj_E.adv 2 (pc' := 32) (ls' := [(0, .ref 32), (1, .int u1), (2, .int u2), (3, .int u3)]) (st' := [.int u3, .ref 32]) (w' := (SH, S, T)) rfl ?_
            refine xj_E.calli (d := D1) (S := SH) rfl rfl rfl rfl rfl (xj_E.deep (ok_m_isFinal (d := 0) hd.1 ?_) (by omega))
            intro v e
            subst e
            refine ⟨_, _, _, rfl, rfl, rfl, rfl, ?_⟩
            have hd := hd.2
            refine xj_E.adv 1 (pc' := (if xj_cmp .eq (r_m_isFinal S u3) 0 = true then 41 else 38)) (ls' := [(0, .ref 32), (1, .int u1), (2, .int u2), (3, .int u3)]) (st' := []) (w' := (SH, S, T)) rfl ?_
            refine xj_E.b_eq (fun q => ?_) (fun q => ?_)
            · have hd := hd.1 q
              have h := fun v S9 e => h v S9 (Eq.trans e (if_pos q).symm)
              refine xj_E.adv 2 (pc' := 44) (ls' := [(4, .int 0), (0, .ref 32), (1, .int u1), (2, .int u2), (3, .int u3)]) (st' := []) (w' := (SH, S, T)) rfl ?_
              refine xj_E.loc [0, 1, 2, 3, 4] xhth rfl (show xj_E (xX L xs) (D1 + 1) 82 44 [(0, .ref 32), (1, .int u1), (2, .int u2), (3, .int u3), (4, .int 0)] [] (SH, S, T) P from ?_)
              exact (ih.2.1) _ _ _ _ _ _ _ (by omega) hd h
            · have hd := hd.2 q
              have h := fun v S9 e => h v S9 (Eq.trans e (if_neg q).symm)
              refine xj_E.adv 3 (pc' := 2) (ls' := [(3, .int (u3 + 1)), (0, .ref 32), (1, .int u1), (2, .int u2)]) (st' := []) (w' := (SH, S, T)) rfl ?_
              refine xj_E.loc [0, 1, 2, 3] xhth rfl (show xj_E (xX L xs) (D1 + 1) 82 2 [(0, .ref 32), (1, .int u1), (2, .int u2), (3, .int (u3 + 1))] [] (SH, S, T) P from ?_)
              exact (ih.1) _ _ _ _ _ _ (by omega) hd h
    · intro u1 u2 u3 u4 S D P hD hd h
      refine xj_E.adv 4 (pc' := (if xj_cmp .ge u4 (S 32 5) = true then 152 else 53)) (ls' := [(0, .ref 32), (1, .int u1), (2, .int u2), (3, .int u3), (4, .int u4)]) (st' := []) (w' := (SH, S, T)) rfl ?_
      refine xj_E.b_ge (fun q => ?_) (fun q => ?_)
      · have hd := hd.1 q
        have h := fun v S9 e => h v S9 (Eq.trans e (if_pos q).symm)
        refine xj_E.adv 2 (pc' := 2) (ls' := [(3, .int (u3 + 1)), (0, .ref 32), (1, .int u1), (2, .int u2), (4, .int u4)]) (st' := []) (w' := (SH, S, T)) rfl ?_
        refine xj_E.loc [0, 1, 2, 3] xhth rfl (show xj_E (xX L xs) D 82 2 [(0, .ref 32), (1, .int u1), (2, .int u2), (3, .int (u3 + 1))] [] (SH, S, T) P from ?_)
        exact (ih.1) _ _ _ _ _ _ (by omega) hd h
      · have hd := hd.2 q
        have h := fun v S9 e => h v S9 (Eq.trans e (if_neg q).symm)
        refine xj_E.adv 3 (pc' := 59) (ls' := [(0, .ref 32), (1, .int u1), (2, .int u2), (3, .int u3), (4, .int u4)]) (st' := [.int u4, .ref 36]) (w' := (SH, S, T)) rfl ?_
        refine xj_E.iald rfl rfl hd.1 ?_
        have hd := hd.2
        refine xj_E.adv 3 (pc' := 65) (ls' := [(0, .ref 32), (1, .int u1), (2, .int u2), (3, .int u3), (4, .int u4)]) (st' := [.int u3, .ref 45, .int (S 36 u4.toNatClampNeg)]) (w' := (SH, S, T)) rfl ?_
        refine xj_E.iald rfl rfl hd.1 ?_
        have hd := hd.2
        refine xj_E.adv 1 (pc' := (if xj_cmp .eq (S 36 u4.toNatClampNeg) (S 45 u3.toNatClampNeg) = true then 72 else 69)) (ls' := [(0, .ref 32), (1, .int u1), (2, .int u2), (3, .int u3), (4, .int u4)]) (st' := []) (w' := (SH, S, T)) rfl ?_
        refine xj_E.b_eq (fun q => ?_) (fun q => ?_)
        · have hd := hd.1 q
          have h := fun v S9 e => h v S9 (Eq.trans e (if_pos q).symm)
          refine xj_E.adv 2 (pc' := 75) (ls' := [(5, .int 0), (0, .ref 32), (1, .int u1), (2, .int u2), (3, .int u3), (4, .int u4)]) (st' := []) (w' := (SH, S, T)) rfl ?_
          refine xj_E.loc [0, 1, 2, 3, 4, 5] xhth rfl (show xj_E (xX L xs) D 82 75 [(0, .ref 32), (1, .int u1), (2, .int u2), (3, .int u3), (4, .int u4), (5, .int 0)] [] (SH, S, T) P from ?_)
          exact (ih.2.2) _ _ _ _ _ _ _ _ (by omega) hd h
        · have hd := hd.2 q
          have h := fun v S9 e => h v S9 (Eq.trans e (if_neg q).symm)
          refine xj_E.adv 3 (pc' := 44) (ls' := [(4, .int (u4 + 1)), (0, .ref 32), (1, .int u1), (2, .int u2), (3, .int u3)]) (st' := []) (w' := (SH, S, T)) rfl ?_
          refine xj_E.loc [0, 1, 2, 3, 4] xhth rfl (show xj_E (xX L xs) D 82 44 [(0, .ref 32), (1, .int u1), (2, .int u2), (3, .int u3), (4, .int (u4 + 1))] [] (SH, S, T) P from ?_)
          exact (ih.2.1) _ _ _ _ _ _ _ (by omega) hd h
    · intro u1 u2 u3 u4 u5 S D P hD hd h
      refine xj_E.adv 4 (pc' := 83) (ls' := [(0, .ref 32), (1, .int u1), (2, .int u2), (3, .int u3), (4, .int u4), (5, .int u5)]) (st' := [.int u4, .ref 38, .int u5]) (w' := (SH, S, T)) rfl ?_
      refine xj_E.iald rfl rfl hd.1 ?_
      have hd := hd.2
      refine xj_E.adv 1 (pc' := (if xj_cmp .ge u5 (S 38 u4.toNatClampNeg) = true then 146 else 87)) (ls' := [(0, .ref 32), (1, .int u1), (2, .int u2), (3, .int u3), (4, .int u4), (5, .int u5)]) (st' := []) (w' := (SH, S, T)) rfl ?_
      refine xj_E.b_ge (fun q => ?_) (fun q => ?_)
      · have hd := hd.1 q
        have h := fun v S9 e => h v S9 (Eq.trans e (if_pos q).symm)
        refine xj_E.adv 2 (pc' := 44) (ls' := [(4, .int (u4 + 1)), (0, .ref 32), (1, .int u1), (2, .int u2), (3, .int u3), (5, .int u5)]) (st' := []) (w' := (SH, S, T)) rfl ?_
        refine xj_E.loc [0, 1, 2, 3, 4] xhth rfl (show xj_E (xX L xs) D 82 44 [(0, .ref 32), (1, .int u1), (2, .int u2), (3, .int u3), (4, .int (u4 + 1))] [] (SH, S, T) P from ?_)
        exact (ih.2.1) _ _ _ _ _ _ _ (by omega) hd h
      · have hd := hd.2 q
        have h := fun v S9 e => h v S9 (Eq.trans e (if_neg q).symm)
        refine xj_E.adv 9 (pc' := 102) (ls' := [(6, .int ((2 * u4) + u5)), (0, .ref 32), (1, .int u1), (2, .int u2), (3, .int u3), (4, .int u4), (5, .int u5)]) (st' := [.int ((2 * u4) + u5), .ref 39]) (w' := (SH, S, T)) rfl ?_
        refine xj_E.iald rfl rfl hd.1 ?_
        have hd := hd.2
        refine xj_E.adv 3 (pc' := 108) (ls' := [(6, .int ((2 * u4) + u5)), (0, .ref 32), (1, .int u1), (2, .int u2), (3, .int u3), (4, .int u4), (5, .int u5)]) (st' := [.int u1, .ref 45, .int (S 39 ((2 * u4) + u5).toNatClampNeg)]) (w' := (SH, S, T)) rfl ?_
        refine xj_E.iald rfl rfl hd.1 ?_
        have hd := hd.2
        refine xj_E.adv 1 (pc' := (if xj_cmp .ne (S 39 ((2 * u4) + u5).toNatClampNeg) (S 45 u1.toNatClampNeg) = true then 140 else 112)) (ls' := [(6, .int ((2 * u4) + u5)), (0, .ref 32), (1, .int u1), (2, .int u2), (3, .int u3), (4, .int u4), (5, .int u5)]) (st' := []) (w' := (SH, S, T)) rfl ?_
        refine xj_E.b_ne (fun q => ?_) (fun q => ?_)
        · have hd := hd.1 q
          have h := fun v S9 e => h v S9 (Eq.trans e (if_pos q).symm)
          refine xj_E.adv 2 (pc' := 75) (ls' := [(5, .int (u5 + 1)), (6, .int ((2 * u4) + u5)), (0, .ref 32), (1, .int u1), (2, .int u2), (3, .int u3), (4, .int u4)]) (st' := []) (w' := (SH, S, T)) rfl ?_
          refine xj_E.loc [0, 1, 2, 3, 4, 5] xhth rfl (show xj_E (xX L xs) D 82 75 [(0, .ref 32), (1, .int u1), (2, .int u2), (3, .int u3), (4, .int u4), (5, .int (u5 + 1))] [] (SH, S, T) P from ?_)
          exact (ih.2.2) _ _ _ _ _ _ _ _ (by omega) hd h
        · have hd := hd.2 q
          have h := fun v S9 e => h v S9 (Eq.trans e (if_neg q).symm)
          refine xj_E.adv 3 (pc' := 118) (ls' := [(6, .int ((2 * u4) + u5)), (0, .ref 32), (1, .int u1), (2, .int u2), (3, .int u3), (4, .int u4), (5, .int u5)]) (st' := [.int ((2 * u4) + u5), .ref 40]) (w' := (SH, S, T)) rfl ?_
          refine xj_E.iald rfl rfl hd.1 ?_
          have hd := hd.2
          refine xj_E.adv 2 (pc' := (if xj_cmp .ne (S 40 ((2 * u4) + u5).toNatClampNeg) u2 = true then 140 else 123)) (ls' := [(6, .int ((2 * u4) + u5)), (0, .ref 32), (1, .int u1), (2, .int u2), (3, .int u3), (4, .int u4), (5, .int u5)]) (st' := []) (w' := (SH, S, T)) rfl ?_
          refine xj_E.b_ne (fun q => ?_) (fun q => ?_)
          · have hd := hd.1 q
            have h := fun v S9 e => h v S9 (Eq.trans e (if_pos q).symm)
            refine xj_E.adv 2 (pc' := 75) (ls' := [(5, .int (u5 + 1)), (6, .int ((2 * u4) + u5)), (0, .ref 32), (1, .int u1), (2, .int u2), (3, .int u3), (4, .int u4)]) (st' := []) (w' := (SH, S, T)) rfl ?_
            refine xj_E.loc [0, 1, 2, 3, 4, 5] xhth rfl (show xj_E (xX L xs) D 82 75 [(0, .ref 32), (1, .int u1), (2, .int u2), (3, .int u3), (4, .int u4), (5, .int (u5 + 1))] [] (SH, S, T) P from ?_)
            exact (ih.2.2) _ _ _ _ _ _ _ _ (by omega) hd h
          · have hd := hd.2 q
            have h := fun v S9 e => h v S9 (Eq.trans e (if_neg q).symm)
            refine xj_E.adv 6 (pc' := 133) (ls' := [(6, .int ((2 * u4) + u5)), (0, .ref 32), (1, .int u1), (2, .int u2), (3, .int u3), (4, .int u4), (5, .int u5)]) (st' := [.int u3, .ref 49, .int u3, .ref 49]) (w' := (SH, S, T)) rfl ?_
            refine xj_E.iald rfl rfl hd.1 ?_
            have hd := hd.2
            refine xj_E.adv 4 (pc' := 139) (ls' := [(6, .int ((2 * u4) + u5)), (0, .ref 32), (1, .int u1), (2, .int u2), (3, .int u3), (4, .int u4), (5, .int u5)]) (st' := [.int ((S 49 u3.toNatClampNeg) ||| (1 <<< (((2 * u4) + u5) &&& 31))), .int u3, .ref 49]) (w' := (SH, S, T)) rfl ?_
            refine xj_E.iast rfl rfl hd.1 ?_
            have hd := hd.2
            refine xj_E.adv 2 (pc' := 75) (ls' := [(5, .int (u5 + 1)), (6, .int ((2 * u4) + u5)), (0, .ref 32), (1, .int u1), (2, .int u2), (3, .int u3), (4, .int u4)]) (st' := []) (w' := (SH, (xj_set S 49 u3.toNatClampNeg ((S 49 u3.toNatClampNeg) ||| (1 <<< (((2 * u4) + u5) &&& 31)))), T)) rfl ?_
            refine xj_E.loc [0, 1, 2, 3, 4, 5] xhth rfl (show xj_E (xX L xs) D 82 75 [(0, .ref 32), (1, .int u1), (2, .int u2), (3, .int u3), (4, .int u4), (5, .int (u5 + 1))] [] (SH, (xj_set S 49 u3.toNatClampNeg ((S 49 u3.toNatClampNeg) ||| (1 <<< (((2 * u4) + u5) &&& 31)))), T) P from ?_)
            exact (ih.2.2) _ _ _ _ _ _ _ _ (by omega) hd h
def f_m_mark (a : Int32) (b : Int32) (S : (Nat → Nat → Int32)) : Int32 × (Nat → Nat → Int32) := (fk_m_mark 200).1 a b 0 S
def d_m_mark (a : Int32) (b : Int32) (S : (Nat → Nat → Int32)) : Prop := (dk_m_mark 200).1 a b 0 S
seal f_m_mark d_m_mark
set_option maxHeartbeats 4000000 in
set_option maxRecDepth 100000 in
theorem ok_m_mark {L : Nat} {xs : Nat → Int32} {T : Nat → Nat → Int64} {D : Nat} {S : (Nat → Nat → Int32)} {P : (Option Value ⊕ Nat) → xj_W → Nat → Nat → Prop} {a b : Int32} (hD : 201 ≤ D) (hd : d_m_mark a b S) (h : ∀ v S9, (v, S9) = f_m_mark a b S → P (.inl none) (SH, S9, T) 0 0) : xj_E (xX L xs) D 82 0 [(0, .ref 32), (1, .int a), (2, .int b)] [] (SH, S, T) P := by
  unfold d_m_mark at hd
  unfold f_m_mark at h
  refine xj_E.adv 2 (pc' := 2) (ls' := [(3, .int 0), (0, .ref 32), (1, .int a), (2, .int b)]) (st' := []) (w' := (SH, S, T)) rfl ?_
  refine xj_E.loc [0, 1, 2, 3] xhth rfl (show xj_E (xX L xs) D 82 2 [(0, .ref 32), (1, .int a), (2, .int b), (3, .int 0)] [] (SH, S, T) P from ?_)
  exact ((okk_m_mark 200).1) _ _ _ _ _ _ (by omega) hd h
def f_m_create (a : Int32) (b : Int32) (S : (Nat → Nat → Int32)) : Int32 × (Nat → Nat → Int32) := if (S 32 38) = 0 then (if (S 32 17) ≠ 40 then (match f_m_book (S 32 17) 0 (xj_set S 48 (S 32 17).toNatClampNeg 0) with | (v1, S1) => if v1 ≠ 0 then (match f_m_mark (S 32 17) 0 (xj_set (xj_set (xj_set (xj_set (xj_set S1 32 17 ((S1 32 17) + 1)) 45 (S 32 17).toNatClampNeg a) 46 (S 32 17).toNatClampNeg b) 47 (S 32 17).toNatClampNeg 0) 49 (S 32 17).toNatClampNeg 0) with | (_, S2) => (0, S2)) else ((0, S1))) else ((0, (xj_set S 32 38 1)))) else ((0, S))
def d_m_create (a : Int32) (b : Int32) (S : (Nat → Nat → Int32)) : Prop := ((S 32 38) = 0 → (((S 32 17) ≠ 40 → (vp_in (S 32 17) 40 ∧ (d_m_book (S 32 17) 0 (xj_set S 48 (S 32 17).toNatClampNeg 0) ∧ (match f_m_book (S 32 17) 0 (xj_set S 48 (S 32 17).toNatClampNeg 0) with | (v1, S1) => (v1 ≠ 0 → (vp_in (S 32 17) 40 ∧ (vp_in (S 32 17) 40 ∧ (vp_in (S 32 17) 40 ∧ (vp_in (S 32 17) 40 ∧ (d_m_mark (S 32 17) 0 (xj_set (xj_set (xj_set (xj_set (xj_set S1 32 17 ((S1 32 17) + 1)) 45 (S 32 17).toNatClampNeg a) 46 (S 32 17).toNatClampNeg b) 47 (S 32 17).toNatClampNeg 0) 49 (S 32 17).toNatClampNeg 0) ∧ (match f_m_mark (S 32 17) 0 (xj_set (xj_set (xj_set (xj_set (xj_set S1 32 17 ((S1 32 17) + 1)) 45 (S 32 17).toNatClampNeg a) 46 (S 32 17).toNatClampNeg b) 47 (S 32 17).toNatClampNeg 0) 49 (S 32 17).toNatClampNeg 0) with | (_, S2) => True))))))) ∧ (¬ (v1 ≠ 0) → (True)))))) ∧ (¬ ((S 32 17) ≠ 40) → (True)))) ∧ (¬ ((S 32 38) = 0) → (True))
seal f_m_create d_m_create
set_option maxHeartbeats 4000000 in
set_option maxRecDepth 100000 in
theorem ok_m_create {L : Nat} {xs : Nat → Int32} {T : Nat → Nat → Int64} {D : Nat} {S : (Nat → Nat → Int32)} {P : (Option Value ⊕ Nat) → xj_W → Nat → Nat → Prop} {a b : Int32} (hD : 202 ≤ D) (hd : d_m_create a b S) (h : ∀ v S9, (v, S9) = f_m_create a b S → P (.inl none) (SH, S9, T) 0 0) : xj_E (xX L xs) D 83 0 [(0, .ref 32), (1, .int a), (2, .int b)] [] (SH, S, T) P := by
  unfold d_m_create at hd
  unfold f_m_create at h
  obtain ⟨D1, rfl⟩ : ∃ D1, D = D1 + 1 := ⟨D - 1, by omega⟩
  refine xj_E.adv 3 (pc' := (if xj_cmp .eq (S 32 38) 0 = true then 8 else 7)) (ls' := [(0, .ref 32), (1, .int a), (2, .int b)]) (st' := []) (w' := (SH, S, T)) rfl ?_
  refine xj_E.b_eq (fun q => ?_) (fun q => ?_)
  · have hd := hd.1 q
    have h := fun v S9 e => h v S9 (Eq.trans e (if_pos q).symm)
    refine xj_E.adv 4 (pc' := (if xj_cmp .ne (S 32 17) 40 = true then 23 else 17)) (ls' := [(0, .ref 32), (1, .int a), (2, .int b)]) (st' := []) (w' := (SH, S, T)) rfl ?_
    refine xj_E.b_ne (fun q => ?_) (fun q => ?_)
    · have hd := hd.1 q
      have h := fun v S9 e => h v S9 (Eq.trans e (if_pos q).symm)
      refine xj_E.adv 7 (pc' := 34) (ls' := [(3, .int (S 32 17)), (0, .ref 32), (1, .int a), (2, .int b)]) (st' := [.int 0, .int (S 32 17), .ref 48]) (w' := (SH, S, T)) rfl ?_
      refine xj_E.iast rfl rfl hd.1 ?_
      have hd := hd.2
      refine xj_E.adv 3 (pc' := 38) (ls' := [(3, .int (S 32 17)), (0, .ref 32), (1, .int a), (2, .int b)]) (st' := [.int 0, .int (S 32 17), .ref 32]) (w' := (SH, (xj_set S 48 (S 32 17).toNatClampNeg 0), T)) rfl ?_
      refine xj_E.calli (d := D1) (S := SH) rfl rfl rfl rfl rfl (ok_m_book (by omega) hd.1 ?_)
      intro v1 S1 e1
      refine ⟨_, _, _, rfl, rfl, rfl, rfl, ?_⟩
      have hd := hd.2
      rw [← e1] at hd h
      refine xj_E.adv 1 (pc' := (if xj_cmp .ne v1 0 = true then 45 else 44)) (ls' := [(3, .int (S 32 17)), (0, .ref 32), (1, .int a), (2, .int b)]) (st' := []) (w' := (SH, S1, T)) rfl ?_
      refine xj_E.b_ne (fun q => ?_) (fun q => ?_)
      · have hd := hd.1 q
        have h := fun v S9 e => h v S9 (Eq.trans e (if_pos q).symm)
        refine xj_E.adv 10 (pc' := 61) (ls' := [(3, .int (S 32 17)), (0, .ref 32), (1, .int a), (2, .int b)]) (st' := [.int a, .int (S 32 17), .ref 45]) (w' := (SH, (xj_set S1 32 17 ((S1 32 17) + 1)), T)) rfl ?_
        refine xj_E.iast rfl rfl hd.1 ?_
        have hd := hd.2
        refine xj_E.adv 4 (pc' := 68) (ls' := [(3, .int (S 32 17)), (0, .ref 32), (1, .int a), (2, .int b)]) (st' := [.int b, .int (S 32 17), .ref 46]) (w' := (SH, (xj_set (xj_set S1 32 17 ((S1 32 17) + 1)) 45 (S 32 17).toNatClampNeg a), T)) rfl ?_
        refine xj_E.iast rfl rfl hd.1 ?_
        have hd := hd.2
        refine xj_E.adv 4 (pc' := 75) (ls' := [(3, .int (S 32 17)), (0, .ref 32), (1, .int a), (2, .int b)]) (st' := [.int 0, .int (S 32 17), .ref 47]) (w' := (SH, (xj_set (xj_set (xj_set S1 32 17 ((S1 32 17) + 1)) 45 (S 32 17).toNatClampNeg a) 46 (S 32 17).toNatClampNeg b), T)) rfl ?_
        refine xj_E.iast rfl rfl hd.1 ?_
        have hd := hd.2
        refine xj_E.adv 4 (pc' := 82) (ls' := [(3, .int (S 32 17)), (0, .ref 32), (1, .int a), (2, .int b)]) (st' := [.int 0, .int (S 32 17), .ref 49]) (w' := (SH, (xj_set (xj_set (xj_set (xj_set S1 32 17 ((S1 32 17) + 1)) 45 (S 32 17).toNatClampNeg a) 46 (S 32 17).toNatClampNeg b) 47 (S 32 17).toNatClampNeg 0), T)) rfl ?_
        refine xj_E.iast rfl rfl hd.1 ?_
        have hd := hd.2
        refine xj_E.adv 3 (pc' := 86) (ls' := [(3, .int (S 32 17)), (0, .ref 32), (1, .int a), (2, .int b)]) (st' := [.int 0, .int (S 32 17), .ref 32]) (w' := (SH, (xj_set (xj_set (xj_set (xj_set (xj_set S1 32 17 ((S1 32 17) + 1)) 45 (S 32 17).toNatClampNeg a) 46 (S 32 17).toNatClampNeg b) 47 (S 32 17).toNatClampNeg 0) 49 (S 32 17).toNatClampNeg 0), T)) rfl ?_
        refine xj_E.callv (d := D1) (S := SH) rfl rfl rfl rfl rfl (ok_m_mark (by omega) hd.1 ?_)
        intro v2 S2 e2
        refine ⟨_, _, rfl, rfl, rfl, rfl, ?_⟩
        have hd := hd.2
        rw [← e2] at hd h
        exact xj_E.ret rfl rfl rfl rfl (h _ _ rfl)
      · have hd := hd.2 q
        have h := fun v S9 e => h v S9 (Eq.trans e (if_neg q).symm)
        exact xj_E.ret rfl rfl rfl rfl (h _ _ rfl)
    · have hd := hd.2 q
      have h := fun v S9 e => h v S9 (Eq.trans e (if_neg q).symm)
      refine xj_E.adv 3 (pc' := 22) (ls' := [(0, .ref 32), (1, .int a), (2, .int b)]) (st' := []) (w' := (SH, (xj_set S 32 38 1), T)) rfl ?_
      exact xj_E.ret rfl rfl rfl rfl (h _ _ rfl)
  · have hd := hd.2 q
    have h := fun v S9 e => h v S9 (Eq.trans e (if_neg q).symm)
    exact xj_E.ret rfl rfl rfl rfl (h _ _ rfl)
def f_m_again (a : Int32) (b : Int32) (S : (Nat → Nat → Int32)) : Int32 × (Nat → Nat → Int32) := if b = 3 then (if (r_m_hasFlag S a 1) = 0 then ((0, S)) else (if (r_m_hasEntry S a) ≠ 0 then ((0, S)) else (if (r_m_parentActive S a) = 0 then ((0, S)) else (match f_m_create (S 45 a.toNatClampNeg) (S 46 a.toNatClampNeg) S with | (_, S1) => (0, S1))))) else (if b ≠ 4 then ((0, S)) else (if (r_m_hasFlag S a 1) = 0 then ((0, S)) else (if (r_m_hasEntry S a) ≠ 0 then ((0, S)) else (if (r_m_parentActive S a) = 0 then ((0, S)) else (match f_m_create (S 45 a.toNatClampNeg) (S 46 a.toNatClampNeg) S with | (_, S2) => (0, S2))))))
def d_m_again (a : Int32) (b : Int32) (S : (Nat → Nat → Int32)) : Prop := (b = 3 → (d_m_hasFlag S a 1 ∧ (((r_m_hasFlag S a 1) = 0 → (True)) ∧ (¬ ((r_m_hasFlag S a 1) = 0) → (d_m_hasEntry S a ∧ (((r_m_hasEntry S a) ≠ 0 → (True)) ∧ (¬ ((r_m_hasEntry S a) ≠ 0) → (d_m_parentActive S a ∧ (((r_m_parentActive S a) = 0 → (True)) ∧ (¬ ((r_m_parentActive S a) = 0) → (vp_in a 40 ∧ (vp_in a 40 ∧ (d_m_create (S 45 a.toNatClampNeg) (S 46 a.toNatClampNeg) S ∧ (match f_m_create (S 45 a.toNatClampNeg) (S 46 a.toNatClampNeg) S with | (_, S1) => True)))))))))))))) ∧ (¬ (b = 3) → ((b ≠ 4 → (True)) ∧ (¬ (b ≠ 4) → (d_m_hasFlag S a 1 ∧ (((r_m_hasFlag S a 1) = 0 → (True)) ∧ (¬ ((r_m_hasFlag S a 1) = 0) → (d_m_hasEntry S a ∧ (((r_m_hasEntry S a) ≠ 0 → (True)) ∧ (¬ ((r_m_hasEntry S a) ≠ 0) → (d_m_parentActive S a ∧ (((r_m_parentActive S a) = 0 → (True)) ∧ (¬ ((r_m_parentActive S a) = 0) → (vp_in a 40 ∧ (vp_in a 40 ∧ (d_m_create (S 45 a.toNatClampNeg) (S 46 a.toNatClampNeg) S ∧ (match f_m_create (S 45 a.toNatClampNeg) (S 46 a.toNatClampNeg) S with | (_, S2) => True))))))))))))))))
seal f_m_again d_m_again
set_option maxHeartbeats 4000000 in
set_option maxRecDepth 100000 in
theorem ok_m_again {L : Nat} {xs : Nat → Int32} {T : Nat → Nat → Int64} {D : Nat} {S : (Nat → Nat → Int32)} {P : (Option Value ⊕ Nat) → xj_W → Nat → Nat → Prop} {a b : Int32} (hD : 203 ≤ D) (hd : d_m_again a b S) (h : ∀ v S9, (v, S9) = f_m_again a b S → P (.inl none) (SH, S9, T) 0 0) : xj_E (xX L xs) D 86 0 [(0, .ref 32), (1, .int a), (2, .int b)] [] (SH, S, T) P := by
  unfold d_m_again at hd
  unfold f_m_again at h
  obtain ⟨D1, rfl⟩ : ∃ D1, D = D1 + 1 := ⟨D - 1, by omega⟩
  refine xj_E.adv 3 (pc' := (if xj_cmp .eq b 3 = true then 10 else 5)) (ls' := [(0, .ref 32), (1, .int a), (2, .int b)]) (st' := []) (w' := (SH, S, T)) rfl ?_
  refine xj_E.b_eq (fun q => ?_) (fun q => ?_)
  · have hd := hd.1 q
    have h := fun v S9 e => h v S9 (Eq.trans e (if_pos q).symm)
    refine xj_E.adv 3 (pc' := 13) (ls' := [(0, .ref 32), (1, .int a), (2, .int b)]) (st' := [.int 1, .int a, .ref 32]) (w' := (SH, S, T)) rfl ?_
    refine xj_E.calli (d := D1) (S := SH) rfl rfl rfl rfl rfl (xj_E.deep (ok_m_hasFlag (d := 0) hd.1 ?_) (by omega))
    intro v e
    subst e
    refine ⟨_, _, _, rfl, rfl, rfl, rfl, ?_⟩
    have hd := hd.2
    refine xj_E.adv 1 (pc' := (if xj_cmp .eq (r_m_hasFlag S a 1) 0 = true then 51 else 19)) (ls' := [(0, .ref 32), (1, .int a), (2, .int b)]) (st' := []) (w' := (SH, S, T)) rfl ?_
    refine xj_E.b_eq (fun q => ?_) (fun q => ?_)
    · have hd := hd.1 q
      have h := fun v S9 e => h v S9 (Eq.trans e (if_pos q).symm)
      exact xj_E.ret rfl rfl rfl rfl (h _ _ rfl)
    · have hd := hd.2 q
      have h := fun v S9 e => h v S9 (Eq.trans e (if_neg q).symm)
      refine xj_E.adv 2 (pc' := 21) (ls' := [(0, .ref 32), (1, .int a), (2, .int b)]) (st' := [.int a, .ref 32]) (w' := (SH, S, T)) rfl ?_
      refine xj_E.calli (d := D1) (S := SH) rfl rfl rfl rfl rfl (xj_E.deep (ok_m_hasEntry (d := 0) hd.1 ?_) (by omega))
      intro v e
      subst e
      refine ⟨_, _, _, rfl, rfl, rfl, rfl, ?_⟩
      have hd := hd.2
      refine xj_E.adv 1 (pc' := (if xj_cmp .ne (r_m_hasEntry S a) 0 = true then 51 else 27)) (ls' := [(0, .ref 32), (1, .int a), (2, .int b)]) (st' := []) (w' := (SH, S, T)) rfl ?_
      refine xj_E.b_ne (fun q => ?_) (fun q => ?_)
      · have hd := hd.1 q
        have h := fun v S9 e => h v S9 (Eq.trans e (if_pos q).symm)
        exact xj_E.ret rfl rfl rfl rfl (h _ _ rfl)
      · have hd := hd.2 q
        have h := fun v S9 e => h v S9 (Eq.trans e (if_neg q).symm)
        refine xj_E.adv 2 (pc' := 29) (ls' := [(0, .ref 32), (1, .int a), (2, .int b)]) (st' := [.int a, .ref 32]) (w' := (SH, S, T)) rfl ?_
        refine xj_E.calli (d := D1) (S := SH) rfl rfl rfl rfl rfl (xj_E.deep (ok_m_parentActive (d := 0) hd.1 ?_) (by omega))
        intro v e
        subst e
        refine ⟨_, _, _, rfl, rfl, rfl, rfl, ?_⟩
        have hd := hd.2
        refine xj_E.adv 1 (pc' := (if xj_cmp .eq (r_m_parentActive S a) 0 = true then 51 else 35)) (ls' := [(0, .ref 32), (1, .int a), (2, .int b)]) (st' := []) (w' := (SH, S, T)) rfl ?_
        refine xj_E.b_eq (fun q => ?_) (fun q => ?_)
        · have hd := hd.1 q
          have h := fun v S9 e => h v S9 (Eq.trans e (if_pos q).symm)
          exact xj_E.ret rfl rfl rfl rfl (h _ _ rfl)
        · have hd := hd.2 q
          have h := fun v S9 e => h v S9 (Eq.trans e (if_neg q).symm)
          refine xj_E.adv 4 (pc' := 41) (ls' := [(0, .ref 32), (1, .int a), (2, .int b)]) (st' := [.int a, .ref 45, .ref 32]) (w' := (SH, S, T)) rfl ?_
          refine xj_E.iald rfl rfl hd.1 ?_
          have hd := hd.2
          refine xj_E.adv 3 (pc' := 47) (ls' := [(0, .ref 32), (1, .int a), (2, .int b)]) (st' := [.int a, .ref 46, .int (S 45 a.toNatClampNeg), .ref 32]) (w' := (SH, S, T)) rfl ?_
          refine xj_E.iald rfl rfl hd.1 ?_
          have hd := hd.2
          refine xj_E.callv (d := D1) (S := SH) rfl rfl rfl rfl rfl (ok_m_create (by omega) hd.1 ?_)
          intro v1 S1 e1
          refine ⟨_, _, rfl, rfl, rfl, rfl, ?_⟩
          have hd := hd.2
          rw [← e1] at hd h
          exact xj_E.ret rfl rfl rfl rfl (h _ _ rfl)
  · have hd := hd.2 q
    have h := fun v S9 e => h v S9 (Eq.trans e (if_neg q).symm)
    refine xj_E.adv 3 (pc' := (if xj_cmp .ne b 4 = true then 51 else 10)) (ls' := [(0, .ref 32), (1, .int a), (2, .int b)]) (st' := []) (w' := (SH, S, T)) rfl ?_
    refine xj_E.b_ne (fun q => ?_) (fun q => ?_)
    · have hd := hd.1 q
      have h := fun v S9 e => h v S9 (Eq.trans e (if_pos q).symm)
      exact xj_E.ret rfl rfl rfl rfl (h _ _ rfl)
    · have hd := hd.2 q
      have h := fun v S9 e => h v S9 (Eq.trans e (if_neg q).symm)
      refine xj_E.adv 3 (pc' := 13) (ls' := [(0, .ref 32), (1, .int a), (2, .int b)]) (st' := [.int 1, .int a, .ref 32]) (w' := (SH, S, T)) rfl ?_
      refine xj_E.calli (d := D1) (S := SH) rfl rfl rfl rfl rfl (xj_E.deep (ok_m_hasFlag (d := 0) hd.1 ?_) (by omega))
      intro v e
      subst e
      refine ⟨_, _, _, rfl, rfl, rfl, rfl, ?_⟩
      have hd := hd.2
      refine xj_E.adv 1 (pc' := (if xj_cmp .eq (r_m_hasFlag S a 1) 0 = true then 51 else 19)) (ls' := [(0, .ref 32), (1, .int a), (2, .int b)]) (st' := []) (w' := (SH, S, T)) rfl ?_
      refine xj_E.b_eq (fun q => ?_) (fun q => ?_)
      · have hd := hd.1 q
        have h := fun v S9 e => h v S9 (Eq.trans e (if_pos q).symm)
        exact xj_E.ret rfl rfl rfl rfl (h _ _ rfl)
      · have hd := hd.2 q
        have h := fun v S9 e => h v S9 (Eq.trans e (if_neg q).symm)
        refine xj_E.adv 2 (pc' := 21) (ls' := [(0, .ref 32), (1, .int a), (2, .int b)]) (st' := [.int a, .ref 32]) (w' := (SH, S, T)) rfl ?_
        refine xj_E.calli (d := D1) (S := SH) rfl rfl rfl rfl rfl (xj_E.deep (ok_m_hasEntry (d := 0) hd.1 ?_) (by omega))
        intro v e
        subst e
        refine ⟨_, _, _, rfl, rfl, rfl, rfl, ?_⟩
        have hd := hd.2
        refine xj_E.adv 1 (pc' := (if xj_cmp .ne (r_m_hasEntry S a) 0 = true then 51 else 27)) (ls' := [(0, .ref 32), (1, .int a), (2, .int b)]) (st' := []) (w' := (SH, S, T)) rfl ?_
        refine xj_E.b_ne (fun q => ?_) (fun q => ?_)
        · have hd := hd.1 q
          have h := fun v S9 e => h v S9 (Eq.trans e (if_pos q).symm)
          exact xj_E.ret rfl rfl rfl rfl (h _ _ rfl)
        · have hd := hd.2 q
          have h := fun v S9 e => h v S9 (Eq.trans e (if_neg q).symm)
          refine xj_E.adv 2 (pc' := 29) (ls' := [(0, .ref 32), (1, .int a), (2, .int b)]) (st' := [.int a, .ref 32]) (w' := (SH, S, T)) rfl ?_
          refine xj_E.calli (d := D1) (S := SH) rfl rfl rfl rfl rfl (xj_E.deep (ok_m_parentActive (d := 0) hd.1 ?_) (by omega))
          intro v e
          subst e
          refine ⟨_, _, _, rfl, rfl, rfl, rfl, ?_⟩
          have hd := hd.2
          refine xj_E.adv 1 (pc' := (if xj_cmp .eq (r_m_parentActive S a) 0 = true then 51 else 35)) (ls' := [(0, .ref 32), (1, .int a), (2, .int b)]) (st' := []) (w' := (SH, S, T)) rfl ?_
          refine xj_E.b_eq (fun q => ?_) (fun q => ?_)
          · have hd := hd.1 q
            have h := fun v S9 e => h v S9 (Eq.trans e (if_pos q).symm)
            exact xj_E.ret rfl rfl rfl rfl (h _ _ rfl)
          · have hd := hd.2 q
            have h := fun v S9 e => h v S9 (Eq.trans e (if_neg q).symm)
            refine xj_E.adv 4 (pc' := 41) (ls' := [(0, .ref 32), (1, .int a), (2, .int b)]) (st' := [.int a, .ref 45, .ref 32]) (w' := (SH, S, T)) rfl ?_
            refine xj_E.iald rfl rfl hd.1 ?_
            have hd := hd.2
            refine xj_E.adv 3 (pc' := 47) (ls' := [(0, .ref 32), (1, .int a), (2, .int b)]) (st' := [.int a, .ref 46, .int (S 45 a.toNatClampNeg), .ref 32]) (w' := (SH, S, T)) rfl ?_
            refine xj_E.iald rfl rfl hd.1 ?_
            have hd := hd.2
            refine xj_E.callv (d := D1) (S := SH) rfl rfl rfl rfl rfl (ok_m_create (by omega) hd.1 ?_)
            intro v2 S2 e2
            refine ⟨_, _, rfl, rfl, rfl, rfl, ?_⟩
            have hd := hd.2
            rw [← e2] at hd h
            exact xj_E.ret rfl rfl rfl rfl (h _ _ rfl)
def fk_m_keep : Nat → (Int32 → (Nat → Nat → Int32) → (Int32 × (Nat → Nat → Int32))) × (Int32 → (Nat → Nat → Int32) → (Int32 × (Nat → Nat → Int32))) × (Int32 → (Nat → Nat → Int32) → (Int32 × (Nat → Nat → Int32)))
  | 0 => (fun _ S => (0, S), fun _ S => (0, S), fun _ S => (0, S))
  | n + 1 => (fun u1 S => if 40 ≤ u1 then ((fk_m_keep n).2.1 0 S) else ((fk_m_keep n).1 (u1 + 1) (xj_set (xj_set (xj_set (xj_set (xj_set S 53 u1.toNatClampNeg (S 45 u1.toNatClampNeg)) 54 u1.toNatClampNeg (S 46 u1.toNatClampNeg)) 55 u1.toNatClampNeg (S 47 u1.toNatClampNeg)) 56 u1.toNatClampNeg (S 48 u1.toNatClampNeg)) 57 u1.toNatClampNeg (S 49 u1.toNatClampNeg))),
    fun u1 S => if 4 ≤ u1 then ((fk_m_keep n).2.2 0 S) else ((fk_m_keep n).2.1 (u1 + 1) (xj_set S 58 u1.toNatClampNeg (S 50 u1.toNatClampNeg))),
    fun u1 S => if 48 ≤ u1 then ((0, (xj_set (xj_set S 32 37 0) 32 38 0))) else ((fk_m_keep n).2.2 (u1 + 1) (xj_set (xj_set S 59 u1.toNatClampNeg (S 51 u1.toNatClampNeg)) 60 u1.toNatClampNeg (S 52 u1.toNatClampNeg))))
def dk_m_keep : Nat → (Int32 → (Nat → Nat → Int32) → Prop) × (Int32 → (Nat → Nat → Int32) → Prop) × (Int32 → (Nat → Nat → Int32) → Prop)
  | 0 => (fun _ S => False, fun _ S => False, fun _ S => False)
  | n + 1 => (fun u1 S => (40 ≤ u1 → ((dk_m_keep n).2.1 0 S)) ∧ (¬ (40 ≤ u1) → (vp_in u1 40 ∧ (vp_in u1 40 ∧ (vp_in u1 40 ∧ (vp_in u1 40 ∧ (vp_in u1 40 ∧ (vp_in u1 40 ∧ (vp_in u1 40 ∧ (vp_in u1 40 ∧ (vp_in u1 40 ∧ (vp_in u1 40 ∧ ((dk_m_keep n).1 (u1 + 1) (xj_set (xj_set (xj_set (xj_set (xj_set S 53 u1.toNatClampNeg (S 45 u1.toNatClampNeg)) 54 u1.toNatClampNeg (S 46 u1.toNatClampNeg)) 55 u1.toNatClampNeg (S 47 u1.toNatClampNeg)) 56 u1.toNatClampNeg (S 48 u1.toNatClampNeg)) 57 u1.toNatClampNeg (S 49 u1.toNatClampNeg)))))))))))))),
    fun u1 S => (4 ≤ u1 → ((dk_m_keep n).2.2 0 S)) ∧ (¬ (4 ≤ u1) → (vp_in u1 4 ∧ (vp_in u1 4 ∧ ((dk_m_keep n).2.1 (u1 + 1) (xj_set S 58 u1.toNatClampNeg (S 50 u1.toNatClampNeg)))))),
    fun u1 S => (48 ≤ u1 → (True)) ∧ (¬ (48 ≤ u1) → (vp_in u1 48 ∧ (vp_in u1 48 ∧ (vp_in u1 48 ∧ (vp_in u1 48 ∧ ((dk_m_keep n).2.2 (u1 + 1) (xj_set (xj_set S 59 u1.toNatClampNeg (S 51 u1.toNatClampNeg)) 60 u1.toNatClampNeg (S 52 u1.toNatClampNeg)))))))))
set_option maxHeartbeats 4000000 in
set_option maxRecDepth 100000 in
theorem okk_m_keep {L : Nat} {xs : Nat → Int32} {T : Nat → Nat → Int64} (n : Nat) : (∀ (u1 : Int32) S D (P : (Option Value ⊕ Nat) → xj_W → Nat → Nat → Prop), 0 + n ≤ D → (dk_m_keep n).1 u1 S → (∀ v S9, (v, S9) = (fk_m_keep n).1 u1 S → P (.inl none) (SH, S9, T) 0 0) → xj_E (xX L xs) D 98 18 [(0, .ref 32), (1, .int u1)] [] (SH, S, T) P) ∧
    (∀ (u1 : Int32) S D (P : (Option Value ⊕ Nat) → xj_W → Nat → Nat → Prop), 0 + n ≤ D → (dk_m_keep n).2.1 u1 S → (∀ v S9, (v, S9) = (fk_m_keep n).2.1 u1 S → P (.inl none) (SH, S9, T) 0 0) → xj_E (xX L xs) D 98 92 [(0, .ref 32), (1, .int u1)] [] (SH, S, T) P) ∧
    (∀ (u1 : Int32) S D (P : (Option Value ⊕ Nat) → xj_W → Nat → Nat → Prop), 0 + n ≤ D → (dk_m_keep n).2.2 u1 S → (∀ v S9, (v, S9) = (fk_m_keep n).2.2 u1 S → P (.inl none) (SH, S9, T) 0 0) → xj_E (xX L xs) D 98 117 [(0, .ref 32), (1, .int u1)] [] (SH, S, T) P) := by
  induction n with
  | zero => exact ⟨fun _ _ _ _ _ hd _ => hd.elim, fun _ _ _ _ _ hd _ => hd.elim, fun _ _ _ _ _ hd _ => hd.elim⟩
  | succ n ih =>
    refine ⟨?_, ?_, ?_⟩
    · intro u1 S D P hD hd h
      refine xj_E.adv 3 (pc' := (if xj_cmp .ge u1 40 = true then 90 else 24)) (ls' := [(0, .ref 32), (1, .int u1)]) (st' := []) (w' := (SH, S, T)) rfl ?_
      refine xj_E.b_ge (fun q => ?_) (fun q => ?_)
      · have hd := hd.1 q
        have h := fun v S9 e => h v S9 (Eq.trans e (if_pos q).symm)
        refine xj_E.adv 2 (pc' := 92) (ls' := [(1, .int 0), (0, .ref 32)]) (st' := []) (w' := (SH, S, T)) rfl ?_
        refine xj_E.loc [0, 1] xhth rfl (show xj_E (xX L xs) D 98 92 [(0, .ref 32), (1, .int 0)] [] (SH, S, T) P from ?_)
        exact (ih.2.1) _ _ _ _ (by omega) hd h
      · have hd := hd.2 q
        have h := fun v S9 e => h v S9 (Eq.trans e (if_neg q).symm)
        refine xj_E.adv 6 (pc' := 34) (ls' := [(0, .ref 32), (1, .int u1)]) (st' := [.int u1, .ref 45, .int u1, .ref 53]) (w' := (SH, S, T)) rfl ?_
        refine xj_E.iald rfl rfl hd.1 ?_
        have hd := hd.2
        refine xj_E.iast rfl rfl hd.1 ?_
        have hd := hd.2
        refine xj_E.adv 6 (pc' := 46) (ls' := [(0, .ref 32), (1, .int u1)]) (st' := [.int u1, .ref 46, .int u1, .ref 54]) (w' := (SH, (xj_set S 53 u1.toNatClampNeg (S 45 u1.toNatClampNeg)), T)) rfl ?_
        refine xj_E.iald rfl rfl hd.1 ?_
        have hd := hd.2
        refine xj_E.iast rfl rfl hd.1 ?_
        have hd := hd.2
        refine xj_E.adv 6 (pc' := 58) (ls' := [(0, .ref 32), (1, .int u1)]) (st' := [.int u1, .ref 47, .int u1, .ref 55]) (w' := (SH, (xj_set (xj_set S 53 u1.toNatClampNeg (S 45 u1.toNatClampNeg)) 54 u1.toNatClampNeg (S 46 u1.toNatClampNeg)), T)) rfl ?_
        refine xj_E.iald rfl rfl hd.1 ?_
        have hd := hd.2
        refine xj_E.iast rfl rfl hd.1 ?_
        have hd := hd.2
        refine xj_E.adv 6 (pc' := 70) (ls' := [(0, .ref 32), (1, .int u1)]) (st' := [.int u1, .ref 48, .int u1, .ref 56]) (w' := (SH, (xj_set (xj_set (xj_set S 53 u1.toNatClampNeg (S 45 u1.toNatClampNeg)) 54 u1.toNatClampNeg (S 46 u1.toNatClampNeg)) 55 u1.toNatClampNeg (S 47 u1.toNatClampNeg)), T)) rfl ?_
        refine xj_E.iald rfl rfl hd.1 ?_
        have hd := hd.2
        refine xj_E.iast rfl rfl hd.1 ?_
        have hd := hd.2
        refine xj_E.adv 6 (pc' := 82) (ls' := [(0, .ref 32), (1, .int u1)]) (st' := [.int u1, .ref 49, .int u1, .ref 57]) (w' := (SH, (xj_set (xj_set (xj_set (xj_set S 53 u1.toNatClampNeg (S 45 u1.toNatClampNeg)) 54 u1.toNatClampNeg (S 46 u1.toNatClampNeg)) 55 u1.toNatClampNeg (S 47 u1.toNatClampNeg)) 56 u1.toNatClampNeg (S 48 u1.toNatClampNeg)), T)) rfl ?_
        refine xj_E.iald rfl rfl hd.1 ?_
        have hd := hd.2
        refine xj_E.iast rfl rfl hd.1 ?_
        have hd := hd.2
        refine xj_E.adv 2 (pc' := 18) (ls' := [(1, .int (u1 + 1)), (0, .ref 32)]) (st' := []) (w' := (SH, (xj_set (xj_set (xj_set (xj_set (xj_set S 53 u1.toNatClampNeg (S 45 u1.toNatClampNeg)) 54 u1.toNatClampNeg (S 46 u1.toNatClampNeg)) 55 u1.toNatClampNeg (S 47 u1.toNatClampNeg)) 56 u1.toNatClampNeg (S 48 u1.toNatClampNeg)) 57 u1.toNatClampNeg (S 49 u1.toNatClampNeg)), T)) rfl ?_
        refine xj_E.loc [0, 1] xhth rfl (show xj_E (xX L xs) D 98 18 [(0, .ref 32), (1, .int (u1 + 1))] [] (SH, (xj_set (xj_set (xj_set (xj_set (xj_set S 53 u1.toNatClampNeg (S 45 u1.toNatClampNeg)) 54 u1.toNatClampNeg (S 46 u1.toNatClampNeg)) 55 u1.toNatClampNeg (S 47 u1.toNatClampNeg)) 56 u1.toNatClampNeg (S 48 u1.toNatClampNeg)) 57 u1.toNatClampNeg (S 49 u1.toNatClampNeg)), T) P from ?_)
        exact (ih.1) _ _ _ _ (by omega) hd h
    · intro u1 S D P hD hd h
      refine xj_E.adv 3 (pc' := (if xj_cmp .ge u1 4 = true then 115 else 97)) (ls' := [(0, .ref 32), (1, .int u1)]) (st' := []) (w' := (SH, S, T)) rfl ?_
      refine xj_E.b_ge (fun q => ?_) (fun q => ?_)
      · have hd := hd.1 q
        have h := fun v S9 e => h v S9 (Eq.trans e (if_pos q).symm)
        refine xj_E.adv 2 (pc' := 117) (ls' := [(1, .int 0), (0, .ref 32)]) (st' := []) (w' := (SH, S, T)) rfl ?_
        refine xj_E.loc [0, 1] xhth rfl (show xj_E (xX L xs) D 98 117 [(0, .ref 32), (1, .int 0)] [] (SH, S, T) P from ?_)
        exact (ih.2.2) _ _ _ _ (by omega) hd h
      · have hd := hd.2 q
        have h := fun v S9 e => h v S9 (Eq.trans e (if_neg q).symm)
        refine xj_E.adv 6 (pc' := 107) (ls' := [(0, .ref 32), (1, .int u1)]) (st' := [.int u1, .ref 50, .int u1, .ref 58]) (w' := (SH, S, T)) rfl ?_
        refine xj_E.iald rfl rfl hd.1 ?_
        have hd := hd.2
        refine xj_E.iast rfl rfl hd.1 ?_
        have hd := hd.2
        refine xj_E.adv 2 (pc' := 92) (ls' := [(1, .int (u1 + 1)), (0, .ref 32)]) (st' := []) (w' := (SH, (xj_set S 58 u1.toNatClampNeg (S 50 u1.toNatClampNeg)), T)) rfl ?_
        refine xj_E.loc [0, 1] xhth rfl (show xj_E (xX L xs) D 98 92 [(0, .ref 32), (1, .int (u1 + 1))] [] (SH, (xj_set S 58 u1.toNatClampNeg (S 50 u1.toNatClampNeg)), T) P from ?_)
        exact (ih.2.1) _ _ _ _ (by omega) hd h
    · intro u1 S D P hD hd h
      refine xj_E.adv 3 (pc' := (if xj_cmp .ge u1 48 = true then 153 else 123)) (ls' := [(0, .ref 32), (1, .int u1)]) (st' := []) (w' := (SH, S, T)) rfl ?_
      refine xj_E.b_ge (fun q => ?_) (fun q => ?_)
      · have hd := hd.1 q
        have h := fun v S9 e => h v S9 (Eq.trans e (if_pos q).symm)
        refine xj_E.adv 6 (pc' := 163) (ls' := [(0, .ref 32), (1, .int u1)]) (st' := []) (w' := (SH, (xj_set (xj_set S 32 37 0) 32 38 0), T)) rfl ?_
        exact xj_E.ret rfl rfl rfl rfl (h _ _ rfl)
      · have hd := hd.2 q
        have h := fun v S9 e => h v S9 (Eq.trans e (if_neg q).symm)
        refine xj_E.adv 6 (pc' := 133) (ls' := [(0, .ref 32), (1, .int u1)]) (st' := [.int u1, .ref 51, .int u1, .ref 59]) (w' := (SH, S, T)) rfl ?_
        refine xj_E.iald rfl rfl hd.1 ?_
        have hd := hd.2
        refine xj_E.iast rfl rfl hd.1 ?_
        have hd := hd.2
        refine xj_E.adv 6 (pc' := 145) (ls' := [(0, .ref 32), (1, .int u1)]) (st' := [.int u1, .ref 52, .int u1, .ref 60]) (w' := (SH, (xj_set S 59 u1.toNatClampNeg (S 51 u1.toNatClampNeg)), T)) rfl ?_
        refine xj_E.iald rfl rfl hd.1 ?_
        have hd := hd.2
        refine xj_E.iast rfl rfl hd.1 ?_
        have hd := hd.2
        refine xj_E.adv 2 (pc' := 117) (ls' := [(1, .int (u1 + 1)), (0, .ref 32)]) (st' := []) (w' := (SH, (xj_set (xj_set S 59 u1.toNatClampNeg (S 51 u1.toNatClampNeg)) 60 u1.toNatClampNeg (S 52 u1.toNatClampNeg)), T)) rfl ?_
        refine xj_E.loc [0, 1] xhth rfl (show xj_E (xX L xs) D 98 117 [(0, .ref 32), (1, .int (u1 + 1))] [] (SH, (xj_set (xj_set S 59 u1.toNatClampNeg (S 51 u1.toNatClampNeg)) 60 u1.toNatClampNeg (S 52 u1.toNatClampNeg)), T) P from ?_)
        exact (ih.2.2) _ _ _ _ (by omega) hd h
def f_m_keep  (S : (Nat → Nat → Int32)) : Int32 × (Nat → Nat → Int32) := (fk_m_keep 200).1 0 (xj_set (xj_set S 32 27 (S 32 17)) 32 34 (S 32 24))
def d_m_keep  (S : (Nat → Nat → Int32)) : Prop := (dk_m_keep 200).1 0 (xj_set (xj_set S 32 27 (S 32 17)) 32 34 (S 32 24))
seal f_m_keep d_m_keep
set_option maxHeartbeats 4000000 in
set_option maxRecDepth 100000 in
theorem ok_m_keep {L : Nat} {xs : Nat → Int32} {T : Nat → Nat → Int64} {D : Nat} {S : (Nat → Nat → Int32)} {P : (Option Value ⊕ Nat) → xj_W → Nat → Nat → Prop} (hD : 200 ≤ D) (hd : d_m_keep  S) (h : ∀ v S9, (v, S9) = f_m_keep  S → P (.inl none) (SH, S9, T) 0 0) : xj_E (xX L xs) D 98 0 [(0, .ref 32)] [] (SH, S, T) P := by
  unfold d_m_keep at hd
  unfold f_m_keep at h
  refine xj_E.adv 10 (pc' := 18) (ls' := [(1, .int 0), (0, .ref 32)]) (st' := []) (w' := (SH, (xj_set (xj_set S 32 27 (S 32 17)) 32 34 (S 32 24)), T)) rfl ?_
  refine xj_E.loc [0, 1] xhth rfl (show xj_E (xX L xs) D 98 18 [(0, .ref 32), (1, .int 0)] [] (SH, (xj_set (xj_set S 32 27 (S 32 17)) 32 34 (S 32 24)), T) P from ?_)
  exact ((okk_m_keep 200).1) _ _ _ _ (by omega) hd h
def fk_m_putBack : Nat → (Int32 → (Nat → Nat → Int32) → (Int32 × (Nat → Nat → Int32))) × (Int32 → (Nat → Nat → Int32) → (Int32 × (Nat → Nat → Int32))) × (Int32 → (Nat → Nat → Int32) → (Int32 × (Nat → Nat → Int32)))
  | 0 => (fun _ S => (0, S), fun _ S => (0, S), fun _ S => (0, S))
  | n + 1 => (fun u1 S => if 40 ≤ u1 then ((fk_m_putBack n).2.1 0 S) else ((fk_m_putBack n).1 (u1 + 1) (xj_set (xj_set (xj_set (xj_set (xj_set S 45 u1.toNatClampNeg (S 53 u1.toNatClampNeg)) 46 u1.toNatClampNeg (S 54 u1.toNatClampNeg)) 47 u1.toNatClampNeg (S 55 u1.toNatClampNeg)) 48 u1.toNatClampNeg (S 56 u1.toNatClampNeg)) 49 u1.toNatClampNeg (S 57 u1.toNatClampNeg))),
    fun u1 S => if 4 ≤ u1 then ((fk_m_putBack n).2.2 0 S) else ((fk_m_putBack n).2.1 (u1 + 1) (xj_set S 50 u1.toNatClampNeg (S 58 u1.toNatClampNeg))),
    fun u1 S => if 48 ≤ u1 then ((0, S)) else ((fk_m_putBack n).2.2 (u1 + 1) (xj_set (xj_set S 51 u1.toNatClampNeg (S 59 u1.toNatClampNeg)) 52 u1.toNatClampNeg (S 60 u1.toNatClampNeg))))
def dk_m_putBack : Nat → (Int32 → (Nat → Nat → Int32) → Prop) × (Int32 → (Nat → Nat → Int32) → Prop) × (Int32 → (Nat → Nat → Int32) → Prop)
  | 0 => (fun _ S => False, fun _ S => False, fun _ S => False)
  | n + 1 => (fun u1 S => (40 ≤ u1 → ((dk_m_putBack n).2.1 0 S)) ∧ (¬ (40 ≤ u1) → (vp_in u1 40 ∧ (vp_in u1 40 ∧ (vp_in u1 40 ∧ (vp_in u1 40 ∧ (vp_in u1 40 ∧ (vp_in u1 40 ∧ (vp_in u1 40 ∧ (vp_in u1 40 ∧ (vp_in u1 40 ∧ (vp_in u1 40 ∧ ((dk_m_putBack n).1 (u1 + 1) (xj_set (xj_set (xj_set (xj_set (xj_set S 45 u1.toNatClampNeg (S 53 u1.toNatClampNeg)) 46 u1.toNatClampNeg (S 54 u1.toNatClampNeg)) 47 u1.toNatClampNeg (S 55 u1.toNatClampNeg)) 48 u1.toNatClampNeg (S 56 u1.toNatClampNeg)) 49 u1.toNatClampNeg (S 57 u1.toNatClampNeg)))))))))))))),
    fun u1 S => (4 ≤ u1 → ((dk_m_putBack n).2.2 0 S)) ∧ (¬ (4 ≤ u1) → (vp_in u1 4 ∧ (vp_in u1 4 ∧ ((dk_m_putBack n).2.1 (u1 + 1) (xj_set S 50 u1.toNatClampNeg (S 58 u1.toNatClampNeg)))))),
    fun u1 S => (48 ≤ u1 → (True)) ∧ (¬ (48 ≤ u1) → (vp_in u1 48 ∧ (vp_in u1 48 ∧ (vp_in u1 48 ∧ (vp_in u1 48 ∧ ((dk_m_putBack n).2.2 (u1 + 1) (xj_set (xj_set S 51 u1.toNatClampNeg (S 59 u1.toNatClampNeg)) 52 u1.toNatClampNeg (S 60 u1.toNatClampNeg)))))))))
set_option maxHeartbeats 4000000 in
set_option maxRecDepth 100000 in
theorem okk_m_putBack {L : Nat} {xs : Nat → Int32} {T : Nat → Nat → Int64} (n : Nat) : (∀ (u1 : Int32) S D (P : (Option Value ⊕ Nat) → xj_W → Nat → Nat → Prop), 0 + n ≤ D → (dk_m_putBack n).1 u1 S → (∀ v S9, (v, S9) = (fk_m_putBack n).1 u1 S → P (.inl none) (SH, S9, T) 0 0) → xj_E (xX L xs) D 99 18 [(0, .ref 32), (1, .int u1)] [] (SH, S, T) P) ∧
    (∀ (u1 : Int32) S D (P : (Option Value ⊕ Nat) → xj_W → Nat → Nat → Prop), 0 + n ≤ D → (dk_m_putBack n).2.1 u1 S → (∀ v S9, (v, S9) = (fk_m_putBack n).2.1 u1 S → P (.inl none) (SH, S9, T) 0 0) → xj_E (xX L xs) D 99 92 [(0, .ref 32), (1, .int u1)] [] (SH, S, T) P) ∧
    (∀ (u1 : Int32) S D (P : (Option Value ⊕ Nat) → xj_W → Nat → Nat → Prop), 0 + n ≤ D → (dk_m_putBack n).2.2 u1 S → (∀ v S9, (v, S9) = (fk_m_putBack n).2.2 u1 S → P (.inl none) (SH, S9, T) 0 0) → xj_E (xX L xs) D 99 117 [(0, .ref 32), (1, .int u1)] [] (SH, S, T) P) := by
  induction n with
  | zero => exact ⟨fun _ _ _ _ _ hd _ => hd.elim, fun _ _ _ _ _ hd _ => hd.elim, fun _ _ _ _ _ hd _ => hd.elim⟩
  | succ n ih =>
    refine ⟨?_, ?_, ?_⟩
    · intro u1 S D P hD hd h
      refine xj_E.adv 3 (pc' := (if xj_cmp .ge u1 40 = true then 90 else 24)) (ls' := [(0, .ref 32), (1, .int u1)]) (st' := []) (w' := (SH, S, T)) rfl ?_
      refine xj_E.b_ge (fun q => ?_) (fun q => ?_)
      · have hd := hd.1 q
        have h := fun v S9 e => h v S9 (Eq.trans e (if_pos q).symm)
        refine xj_E.adv 2 (pc' := 92) (ls' := [(1, .int 0), (0, .ref 32)]) (st' := []) (w' := (SH, S, T)) rfl ?_
        refine xj_E.loc [0, 1] xhth rfl (show xj_E (xX L xs) D 99 92 [(0, .ref 32), (1, .int 0)] [] (SH, S, T) P from ?_)
        exact (ih.2.1) _ _ _ _ (by omega) hd h
      · have hd := hd.2 q
        have h := fun v S9 e => h v S9 (Eq.trans e (if_neg q).symm)
        refine xj_E.adv 6 (pc' := 34) (ls' := [(0, .ref 32), (1, .int u1)]) (st' := [.int u1, .ref 53, .int u1, .ref 45]) (w' := (SH, S, T)) rfl ?_
        refine xj_E.iald rfl rfl hd.1 ?_
        have hd := hd.2
        refine xj_E.iast rfl rfl hd.1 ?_
        have hd := hd.2
        refine xj_E.adv 6 (pc' := 46) (ls' := [(0, .ref 32), (1, .int u1)]) (st' := [.int u1, .ref 54, .int u1, .ref 46]) (w' := (SH, (xj_set S 45 u1.toNatClampNeg (S 53 u1.toNatClampNeg)), T)) rfl ?_
        refine xj_E.iald rfl rfl hd.1 ?_
        have hd := hd.2
        refine xj_E.iast rfl rfl hd.1 ?_
        have hd := hd.2
        refine xj_E.adv 6 (pc' := 58) (ls' := [(0, .ref 32), (1, .int u1)]) (st' := [.int u1, .ref 55, .int u1, .ref 47]) (w' := (SH, (xj_set (xj_set S 45 u1.toNatClampNeg (S 53 u1.toNatClampNeg)) 46 u1.toNatClampNeg (S 54 u1.toNatClampNeg)), T)) rfl ?_
        refine xj_E.iald rfl rfl hd.1 ?_
        have hd := hd.2
        refine xj_E.iast rfl rfl hd.1 ?_
        have hd := hd.2
        refine xj_E.adv 6 (pc' := 70) (ls' := [(0, .ref 32), (1, .int u1)]) (st' := [.int u1, .ref 56, .int u1, .ref 48]) (w' := (SH, (xj_set (xj_set (xj_set S 45 u1.toNatClampNeg (S 53 u1.toNatClampNeg)) 46 u1.toNatClampNeg (S 54 u1.toNatClampNeg)) 47 u1.toNatClampNeg (S 55 u1.toNatClampNeg)), T)) rfl ?_
        refine xj_E.iald rfl rfl hd.1 ?_
        have hd := hd.2
        refine xj_E.iast rfl rfl hd.1 ?_
        have hd := hd.2
        refine xj_E.adv 6 (pc' := 82) (ls' := [(0, .ref 32), (1, .int u1)]) (st' := [.int u1, .ref 57, .int u1, .ref 49]) (w' := (SH, (xj_set (xj_set (xj_set (xj_set S 45 u1.toNatClampNeg (S 53 u1.toNatClampNeg)) 46 u1.toNatClampNeg (S 54 u1.toNatClampNeg)) 47 u1.toNatClampNeg (S 55 u1.toNatClampNeg)) 48 u1.toNatClampNeg (S 56 u1.toNatClampNeg)), T)) rfl ?_
        refine xj_E.iald rfl rfl hd.1 ?_
        have hd := hd.2
        refine xj_E.iast rfl rfl hd.1 ?_
        have hd := hd.2
        refine xj_E.adv 2 (pc' := 18) (ls' := [(1, .int (u1 + 1)), (0, .ref 32)]) (st' := []) (w' := (SH, (xj_set (xj_set (xj_set (xj_set (xj_set S 45 u1.toNatClampNeg (S 53 u1.toNatClampNeg)) 46 u1.toNatClampNeg (S 54 u1.toNatClampNeg)) 47 u1.toNatClampNeg (S 55 u1.toNatClampNeg)) 48 u1.toNatClampNeg (S 56 u1.toNatClampNeg)) 49 u1.toNatClampNeg (S 57 u1.toNatClampNeg)), T)) rfl ?_
        refine xj_E.loc [0, 1] xhth rfl (show xj_E (xX L xs) D 99 18 [(0, .ref 32), (1, .int (u1 + 1))] [] (SH, (xj_set (xj_set (xj_set (xj_set (xj_set S 45 u1.toNatClampNeg (S 53 u1.toNatClampNeg)) 46 u1.toNatClampNeg (S 54 u1.toNatClampNeg)) 47 u1.toNatClampNeg (S 55 u1.toNatClampNeg)) 48 u1.toNatClampNeg (S 56 u1.toNatClampNeg)) 49 u1.toNatClampNeg (S 57 u1.toNatClampNeg)), T) P from ?_)
        exact (ih.1) _ _ _ _ (by omega) hd h
    · intro u1 S D P hD hd h
      refine xj_E.adv 3 (pc' := (if xj_cmp .ge u1 4 = true then 115 else 97)) (ls' := [(0, .ref 32), (1, .int u1)]) (st' := []) (w' := (SH, S, T)) rfl ?_
      refine xj_E.b_ge (fun q => ?_) (fun q => ?_)
      · have hd := hd.1 q
        have h := fun v S9 e => h v S9 (Eq.trans e (if_pos q).symm)
        refine xj_E.adv 2 (pc' := 117) (ls' := [(1, .int 0), (0, .ref 32)]) (st' := []) (w' := (SH, S, T)) rfl ?_
        refine xj_E.loc [0, 1] xhth rfl (show xj_E (xX L xs) D 99 117 [(0, .ref 32), (1, .int 0)] [] (SH, S, T) P from ?_)
        exact (ih.2.2) _ _ _ _ (by omega) hd h
      · have hd := hd.2 q
        have h := fun v S9 e => h v S9 (Eq.trans e (if_neg q).symm)
        refine xj_E.adv 6 (pc' := 107) (ls' := [(0, .ref 32), (1, .int u1)]) (st' := [.int u1, .ref 58, .int u1, .ref 50]) (w' := (SH, S, T)) rfl ?_
        refine xj_E.iald rfl rfl hd.1 ?_
        have hd := hd.2
        refine xj_E.iast rfl rfl hd.1 ?_
        have hd := hd.2
        refine xj_E.adv 2 (pc' := 92) (ls' := [(1, .int (u1 + 1)), (0, .ref 32)]) (st' := []) (w' := (SH, (xj_set S 50 u1.toNatClampNeg (S 58 u1.toNatClampNeg)), T)) rfl ?_
        refine xj_E.loc [0, 1] xhth rfl (show xj_E (xX L xs) D 99 92 [(0, .ref 32), (1, .int (u1 + 1))] [] (SH, (xj_set S 50 u1.toNatClampNeg (S 58 u1.toNatClampNeg)), T) P from ?_)
        exact (ih.2.1) _ _ _ _ (by omega) hd h
    · intro u1 S D P hD hd h
      refine xj_E.adv 3 (pc' := (if xj_cmp .ge u1 48 = true then 153 else 123)) (ls' := [(0, .ref 32), (1, .int u1)]) (st' := []) (w' := (SH, S, T)) rfl ?_
      refine xj_E.b_ge (fun q => ?_) (fun q => ?_)
      · have hd := hd.1 q
        have h := fun v S9 e => h v S9 (Eq.trans e (if_pos q).symm)
        exact xj_E.ret rfl rfl rfl rfl (h _ _ rfl)
      · have hd := hd.2 q
        have h := fun v S9 e => h v S9 (Eq.trans e (if_neg q).symm)
        refine xj_E.adv 6 (pc' := 133) (ls' := [(0, .ref 32), (1, .int u1)]) (st' := [.int u1, .ref 59, .int u1, .ref 51]) (w' := (SH, S, T)) rfl ?_
        refine xj_E.iald rfl rfl hd.1 ?_
        have hd := hd.2
        refine xj_E.iast rfl rfl hd.1 ?_
        have hd := hd.2
        refine xj_E.adv 6 (pc' := 145) (ls' := [(0, .ref 32), (1, .int u1)]) (st' := [.int u1, .ref 60, .int u1, .ref 52]) (w' := (SH, (xj_set S 51 u1.toNatClampNeg (S 59 u1.toNatClampNeg)), T)) rfl ?_
        refine xj_E.iald rfl rfl hd.1 ?_
        have hd := hd.2
        refine xj_E.iast rfl rfl hd.1 ?_
        have hd := hd.2
        refine xj_E.adv 2 (pc' := 117) (ls' := [(1, .int (u1 + 1)), (0, .ref 32)]) (st' := []) (w' := (SH, (xj_set (xj_set S 51 u1.toNatClampNeg (S 59 u1.toNatClampNeg)) 52 u1.toNatClampNeg (S 60 u1.toNatClampNeg)), T)) rfl ?_
        refine xj_E.loc [0, 1] xhth rfl (show xj_E (xX L xs) D 99 117 [(0, .ref 32), (1, .int (u1 + 1))] [] (SH, (xj_set (xj_set S 51 u1.toNatClampNeg (S 59 u1.toNatClampNeg)) 52 u1.toNatClampNeg (S 60 u1.toNatClampNeg)), T) P from ?_)
        exact (ih.2.2) _ _ _ _ (by omega) hd h
def f_m_putBack  (S : (Nat → Nat → Int32)) : Int32 × (Nat → Nat → Int32) := (fk_m_putBack 200).1 0 (xj_set (xj_set S 32 17 (S 32 27)) 32 24 (S 32 34))
def d_m_putBack  (S : (Nat → Nat → Int32)) : Prop := (dk_m_putBack 200).1 0 (xj_set (xj_set S 32 17 (S 32 27)) 32 24 (S 32 34))
seal f_m_putBack d_m_putBack
set_option maxHeartbeats 4000000 in
set_option maxRecDepth 100000 in
theorem ok_m_putBack {L : Nat} {xs : Nat → Int32} {T : Nat → Nat → Int64} {D : Nat} {S : (Nat → Nat → Int32)} {P : (Option Value ⊕ Nat) → xj_W → Nat → Nat → Prop} (hD : 200 ≤ D) (hd : d_m_putBack  S) (h : ∀ v S9, (v, S9) = f_m_putBack  S → P (.inl none) (SH, S9, T) 0 0) : xj_E (xX L xs) D 99 0 [(0, .ref 32)] [] (SH, S, T) P := by
  unfold d_m_putBack at hd
  unfold f_m_putBack at h
  refine xj_E.adv 10 (pc' := 18) (ls' := [(1, .int 0), (0, .ref 32)]) (st' := []) (w' := (SH, (xj_set (xj_set S 32 17 (S 32 27)) 32 24 (S 32 34)), T)) rfl ?_
  refine xj_E.loc [0, 1] xhth rfl (show xj_E (xX L xs) D 99 18 [(0, .ref 32), (1, .int 0)] [] (SH, (xj_set (xj_set S 32 17 (S 32 27)) 32 24 (S 32 34)), T) P from ?_)
  exact ((okk_m_putBack 200).1) _ _ _ _ (by omega) hd h
def f_m_can (a : Int32) (b : Int32) (S : (Nat → Nat → Int32)) : Int32 × (Nat → Nat → Int32) := if (r_m_refusal (xj_set S 32 0 0) a b) ≠ 0 then ((0, (xj_set S 32 0 0))) else ((1, (xj_set S 32 0 0)))
def d_m_can (a : Int32) (b : Int32) (S : (Nat → Nat → Int32)) : Prop := d_m_refusal (xj_set S 32 0 0) a b ∧ (((r_m_refusal (xj_set S 32 0 0) a b) ≠ 0 → (True)) ∧ (¬ ((r_m_refusal (xj_set S 32 0 0) a b) ≠ 0) → (True)))
seal f_m_can d_m_can
set_option maxHeartbeats 4000000 in
set_option maxRecDepth 100000 in
theorem ok_m_can {L : Nat} {xs : Nat → Int32} {T : Nat → Nat → Int64} {D : Nat} {S : (Nat → Nat → Int32)} {P : (Option Value ⊕ Nat) → xj_W → Nat → Nat → Prop} {a b : Int32} (hD : 4 ≤ D) (hd : d_m_can a b S) (h : ∀ v S9, (v, S9) = f_m_can a b S → P (.inl (some (.int v))) (SH, S9, T) 0 0) : xj_E (xX L xs) D 105 0 [(0, .ref 32), (1, .int a), (2, .int b)] [] (SH, S, T) P := by
  unfold d_m_can at hd
  unfold f_m_can at h
  obtain ⟨D1, rfl⟩ : ∃ D1, D = D1 + 1 := ⟨D - 1, by omega⟩
  refine xj_E.adv 6 (pc' := 8) (ls' := [(0, .ref 32), (1, .int a), (2, .int b)]) (st' := [.int b, .int a, .ref 32]) (w' := (SH, (xj_set S 32 0 0), T)) rfl ?_
  refine xj_E.calli (d := D1) (S := SH) rfl rfl rfl rfl rfl (xj_E.deep (ok_m_refusal (d := 0) hd.1 ?_) (by omega))
  intro v e
  subst e
  refine ⟨_, _, _, rfl, rfl, rfl, rfl, ?_⟩
  have hd := hd.2
  refine xj_E.adv 1 (pc' := (if xj_cmp .ne (r_m_refusal (xj_set S 32 0 0) a b) 0 = true then 18 else 14)) (ls' := [(0, .ref 32), (1, .int a), (2, .int b)]) (st' := []) (w' := (SH, (xj_set S 32 0 0), T)) rfl ?_
  refine xj_E.b_ne (fun q => ?_) (fun q => ?_)
  · have hd := hd.1 q
    have h := fun v S9 e => h v S9 (Eq.trans e (if_pos q).symm)
    refine xj_E.adv 1 (pc' := 19) (ls' := [(0, .ref 32), (1, .int a), (2, .int b)]) (st' := [.int 0]) (w' := (SH, (xj_set S 32 0 0), T)) rfl ?_
    exact xj_E.ret rfl rfl rfl rfl (h _ _ rfl)
  · have hd := hd.2 q
    have h := fun v S9 e => h v S9 (Eq.trans e (if_neg q).symm)
    refine xj_E.adv 2 (pc' := 19) (ls' := [(0, .ref 32), (1, .int a), (2, .int b)]) (st' := [.int 1]) (w' := (SH, (xj_set S 32 0 0), T)) rfl ?_
    exact xj_E.ret rfl rfl rfl rfl (h _ _ rfl)
def fk_m_markVariable : Nat → (Int32 → Int32 → (Nat → Nat → Int32) → (Int32 × (Nat → Nat → Int32))) × (Int32 → Int32 → Int32 → (Nat → Nat → Int32) → (Int32 × (Nat → Nat → Int32))) × (Int32 → Int32 → Int32 → Int32 → (Nat → Nat → Int32) → (Int32 × (Nat → Nat → Int32)))
  | 0 => (fun _ _ S => (0, S), fun _ _ _ S => (0, S), fun _ _ _ _ S => (0, S))
  | n + 1 => (fun u1 u2 S => if (S 32 17) ≤ u2 then ((0, S)) else (if (r_m_isFinal S u2) = 0 then ((fk_m_markVariable n).2.1 u1 u2 0 S) else ((fk_m_markVariable n).1 u1 (u2 + 1) S)),
    fun u1 u2 u3 S => if (S 32 5) ≤ u3 then ((fk_m_markVariable n).1 u1 (u2 + 1) S) else (if (S 36 u3.toNatClampNeg) = (S 45 u2.toNatClampNeg) then ((fk_m_markVariable n).2.2 u1 u2 u3 0 S) else ((fk_m_markVariable n).2.1 u1 u2 (u3 + 1) S)),
    fun u1 u2 u3 u4 S => if (S 38 u3.toNatClampNeg) ≤ u4 then ((fk_m_markVariable n).2.1 u1 u2 (u3 + 1) S) else (if (S 39 ((2 * u3) + u4).toNatClampNeg) ≠ (100 + u1) then ((fk_m_markVariable n).2.2 u1 u2 u3 (u4 + 1) S) else ((fk_m_markVariable n).2.2 u1 u2 u3 (u4 + 1) (xj_set S 49 u2.toNatClampNeg ((S 49 u2.toNatClampNeg) ||| (1 <<< (((2 * u3) + u4) &&& 31)))))))
def dk_m_markVariable : Nat → (Int32 → Int32 → (Nat → Nat → Int32) → Prop) × (Int32 → Int32 → Int32 → (Nat → Nat → Int32) → Prop) × (Int32 → Int32 → Int32 → Int32 → (Nat → Nat → Int32) → Prop)
  | 0 => (fun _ _ S => False, fun _ _ _ S => False, fun _ _ _ _ S => False)
  | n + 1 => (fun u1 u2 S => ((S 32 17) ≤ u2 → (True)) ∧ (¬ ((S 32 17) ≤ u2) → (d_m_isFinal S u2 ∧ (((r_m_isFinal S u2) = 0 → ((dk_m_markVariable n).2.1 u1 u2 0 S)) ∧ (¬ ((r_m_isFinal S u2) = 0) → ((dk_m_markVariable n).1 u1 (u2 + 1) S))))),
    fun u1 u2 u3 S => ((S 32 5) ≤ u3 → ((dk_m_markVariable n).1 u1 (u2 + 1) S)) ∧ (¬ ((S 32 5) ≤ u3) → (vp_in u3 16 ∧ (vp_in u2 40 ∧ (((S 36 u3.toNatClampNeg) = (S 45 u2.toNatClampNeg) → ((dk_m_markVariable n).2.2 u1 u2 u3 0 S)) ∧ (¬ ((S 36 u3.toNatClampNeg) = (S 45 u2.toNatClampNeg)) → ((dk_m_markVariable n).2.1 u1 u2 (u3 + 1) S)))))),
    fun u1 u2 u3 u4 S => vp_in u3 16 ∧ (((S 38 u3.toNatClampNeg) ≤ u4 → ((dk_m_markVariable n).2.1 u1 u2 (u3 + 1) S)) ∧ (¬ ((S 38 u3.toNatClampNeg) ≤ u4) → (vp_in ((2 * u3) + u4) 32 ∧ (((S 39 ((2 * u3) + u4).toNatClampNeg) ≠ (100 + u1) → ((dk_m_markVariable n).2.2 u1 u2 u3 (u4 + 1) S)) ∧ (¬ ((S 39 ((2 * u3) + u4).toNatClampNeg) ≠ (100 + u1)) → (vp_in u2 40 ∧ (vp_in u2 40 ∧ ((dk_m_markVariable n).2.2 u1 u2 u3 (u4 + 1) (xj_set S 49 u2.toNatClampNeg ((S 49 u2.toNatClampNeg) ||| (1 <<< (((2 * u3) + u4) &&& 31)))))))))))))
set_option maxHeartbeats 4000000 in
set_option maxRecDepth 100000 in
theorem okk_m_markVariable {L : Nat} {xs : Nat → Int32} {T : Nat → Nat → Int64} (n : Nat) : (∀ (u1 : Int32) (u2 : Int32) S D (P : (Option Value ⊕ Nat) → xj_W → Nat → Nat → Prop), 1 + n ≤ D → (dk_m_markVariable n).1 u1 u2 S → (∀ v S9, (v, S9) = (fk_m_markVariable n).1 u1 u2 S → P (.inl none) (SH, S9, T) 0 0) → xj_E (xX L xs) D 106 2 [(0, .ref 32), (1, .int u1), (2, .int u2)] [] (SH, S, T) P) ∧
    (∀ (u1 : Int32) (u2 : Int32) (u3 : Int32) S D (P : (Option Value ⊕ Nat) → xj_W → Nat → Nat → Prop), 1 + n ≤ D → (dk_m_markVariable n).2.1 u1 u2 u3 S → (∀ v S9, (v, S9) = (fk_m_markVariable n).2.1 u1 u2 u3 S → P (.inl none) (SH, S9, T) 0 0) → xj_E (xX L xs) D 106 23 [(0, .ref 32), (1, .int u1), (2, .int u2), (3, .int u3)] [] (SH, S, T) P) ∧
    (∀ (u1 : Int32) (u2 : Int32) (u3 : Int32) (u4 : Int32) S D (P : (Option Value ⊕ Nat) → xj_W → Nat → Nat → Prop), 1 + n ≤ D → (dk_m_markVariable n).2.2 u1 u2 u3 u4 S → (∀ v S9, (v, S9) = (fk_m_markVariable n).2.2 u1 u2 u3 u4 S → P (.inl none) (SH, S9, T) 0 0) → xj_E (xX L xs) D 106 52 [(0, .ref 32), (1, .int u1), (2, .int u2), (3, .int u3), (4, .int u4)] [] (SH, S, T) P) := by
  induction n with
  | zero => exact ⟨fun _ _ _ _ _ _ hd _ => hd.elim, fun _ _ _ _ _ _ _ hd _ => hd.elim, fun _ _ _ _ _ _ _ _ hd _ => hd.elim⟩
  | succ n ih =>
    refine ⟨?_, ?_, ?_⟩
    · intro u1 u2 S D P hD hd h
      obtain ⟨D1, rfl⟩ : ∃ D1, D = D1 + 1 := ⟨D - 1, by omega⟩
      refine xj_E.adv 4 (pc' := (if xj_cmp .ge u2 (S 32 17) = true then 120 else 10)) (ls' := [(0, .ref 32), (1, .int u1), (2, .int u2)]) (st' := []) (w' := (SH, S, T)) rfl ?_
      refine xj_E.b_ge (fun q => ?_) (fun q => ?_)
      · have hd := hd.1 q
        have h := fun v S9 e => h v S9 (Eq.trans e (if_pos q).symm)
        exact xj_E.ret rfl rfl rfl rfl (h _ _ rfl)
      · have hd := hd.2 q
        have h := fun v S9 e => h v S9 (Eq.trans e (if_neg q).symm)
        refine xj_E.adv 2 (pc' := 12) (ls' := [(0, .ref 32), (1, .int u1), (2, .int u2)]) (st' := [.int u2, .ref 32]) (w' := (SH, S, T)) rfl ?_
        refine xj_E.calli (d := D1) (S := SH) rfl rfl rfl rfl rfl (xj_E.deep (ok_m_isFinal (d := 0) hd.1 ?_) (by omega))
        intro v e
        subst e
        refine ⟨_, _, _, rfl, rfl, rfl, rfl, ?_⟩
        have hd := hd.2
        refine xj_E.adv 1 (pc' := (if xj_cmp .eq (r_m_isFinal S u2) 0 = true then 21 else 18)) (ls' := [(0, .ref 32), (1, .int u1), (2, .int u2)]) (st' := []) (w' := (SH, S, T)) rfl ?_
        refine xj_E.b_eq (fun q => ?_) (fun q => ?_)
        · have hd := hd.1 q
          have h := fun v S9 e => h v S9 (Eq.trans e (if_pos q).symm)
          refine xj_E.adv 2 (pc' := 23) (ls' := [(3, .int 0), (0, .ref 32), (1, .int u1), (2, .int u2)]) (st' := []) (w' := (SH, S, T)) rfl ?_
          refine xj_E.loc [0, 1, 2, 3] xhth rfl (show xj_E (xX L xs) (D1 + 1) 106 23 [(0, .ref 32), (1, .int u1), (2, .int u2), (3, .int 0)] [] (SH, S, T) P from ?_)
          exact (ih.2.1) _ _ _ _ _ _ (by omega) hd h
        · have hd := hd.2 q
          have h := fun v S9 e => h v S9 (Eq.trans e (if_neg q).symm)
          refine xj_E.adv 3 (pc' := 2) (ls' := [(2, .int (u2 + 1)), (0, .ref 32), (1, .int u1)]) (st' := []) (w' := (SH, S, T)) rfl ?_
          refine xj_E.loc [0, 1, 2] xhth rfl (show xj_E (xX L xs) (D1 + 1) 106 2 [(0, .ref 32), (1, .int u1), (2, .int (u2 + 1))] [] (SH, S, T) P from ?_)
          exact (ih.1) _ _ _ _ _ (by omega) hd h
    · intro u1 u2 u3 S D P hD hd h
      refine xj_E.adv 4 (pc' := (if xj_cmp .ge u3 (S 32 5) = true then 114 else 31)) (ls' := [(0, .ref 32), (1, .int u1), (2, .int u2), (3, .int u3)]) (st' := []) (w' := (SH, S, T)) rfl ?_
      refine xj_E.b_ge (fun q => ?_) (fun q => ?_)
      · have hd := hd.1 q
        have h := fun v S9 e => h v S9 (Eq.trans e (if_pos q).symm)
        refine xj_E.adv 2 (pc' := 2) (ls' := [(2, .int (u2 + 1)), (0, .ref 32), (1, .int u1), (3, .int u3)]) (st' := []) (w' := (SH, S, T)) rfl ?_
        refine xj_E.loc [0, 1, 2] xhth rfl (show xj_E (xX L xs) D 106 2 [(0, .ref 32), (1, .int u1), (2, .int (u2 + 1))] [] (SH, S, T) P from ?_)
        exact (ih.1) _ _ _ _ _ (by omega) hd h
      · have hd := hd.2 q
        have h := fun v S9 e => h v S9 (Eq.trans e (if_neg q).symm)
        refine xj_E.adv 3 (pc' := 36) (ls' := [(0, .ref 32), (1, .int u1), (2, .int u2), (3, .int u3)]) (st' := [.int u3, .ref 36]) (w' := (SH, S, T)) rfl ?_
        refine xj_E.iald rfl rfl hd.1 ?_
        have hd := hd.2
        refine xj_E.adv 3 (pc' := 42) (ls' := [(0, .ref 32), (1, .int u1), (2, .int u2), (3, .int u3)]) (st' := [.int u2, .ref 45, .int (S 36 u3.toNatClampNeg)]) (w' := (SH, S, T)) rfl ?_
        refine xj_E.iald rfl rfl hd.1 ?_
        have hd := hd.2
        refine xj_E.adv 1 (pc' := (if xj_cmp .eq (S 36 u3.toNatClampNeg) (S 45 u2.toNatClampNeg) = true then 49 else 46)) (ls' := [(0, .ref 32), (1, .int u1), (2, .int u2), (3, .int u3)]) (st' := []) (w' := (SH, S, T)) rfl ?_
        refine xj_E.b_eq (fun q => ?_) (fun q => ?_)
        · have hd := hd.1 q
          have h := fun v S9 e => h v S9 (Eq.trans e (if_pos q).symm)
          refine xj_E.adv 2 (pc' := 52) (ls' := [(4, .int 0), (0, .ref 32), (1, .int u1), (2, .int u2), (3, .int u3)]) (st' := []) (w' := (SH, S, T)) rfl ?_
          refine xj_E.loc [0, 1, 2, 3, 4] xhth rfl (show xj_E (xX L xs) D 106 52 [(0, .ref 32), (1, .int u1), (2, .int u2), (3, .int u3), (4, .int 0)] [] (SH, S, T) P from ?_)
          exact (ih.2.2) _ _ _ _ _ _ _ (by omega) hd h
        · have hd := hd.2 q
          have h := fun v S9 e => h v S9 (Eq.trans e (if_neg q).symm)
          refine xj_E.adv 3 (pc' := 23) (ls' := [(3, .int (u3 + 1)), (0, .ref 32), (1, .int u1), (2, .int u2)]) (st' := []) (w' := (SH, S, T)) rfl ?_
          refine xj_E.loc [0, 1, 2, 3] xhth rfl (show xj_E (xX L xs) D 106 23 [(0, .ref 32), (1, .int u1), (2, .int u2), (3, .int (u3 + 1))] [] (SH, S, T) P from ?_)
          exact (ih.2.1) _ _ _ _ _ _ (by omega) hd h
    · intro u1 u2 u3 u4 S D P hD hd h
      refine xj_E.adv 4 (pc' := 59) (ls' := [(0, .ref 32), (1, .int u1), (2, .int u2), (3, .int u3), (4, .int u4)]) (st' := [.int u3, .ref 38, .int u4]) (w' := (SH, S, T)) rfl ?_
      refine xj_E.iald rfl rfl hd.1 ?_
      have hd := hd.2
      refine xj_E.adv 1 (pc' := (if xj_cmp .ge u4 (S 38 u3.toNatClampNeg) = true then 108 else 63)) (ls' := [(0, .ref 32), (1, .int u1), (2, .int u2), (3, .int u3), (4, .int u4)]) (st' := []) (w' := (SH, S, T)) rfl ?_
      refine xj_E.b_ge (fun q => ?_) (fun q => ?_)
      · have hd := hd.1 q
        have h := fun v S9 e => h v S9 (Eq.trans e (if_pos q).symm)
        refine xj_E.adv 2 (pc' := 23) (ls' := [(3, .int (u3 + 1)), (0, .ref 32), (1, .int u1), (2, .int u2), (4, .int u4)]) (st' := []) (w' := (SH, S, T)) rfl ?_
        refine xj_E.loc [0, 1, 2, 3] xhth rfl (show xj_E (xX L xs) D 106 23 [(0, .ref 32), (1, .int u1), (2, .int u2), (3, .int (u3 + 1))] [] (SH, S, T) P from ?_)
        exact (ih.2.1) _ _ _ _ _ _ (by omega) hd h
      · have hd := hd.2 q
        have h := fun v S9 e => h v S9 (Eq.trans e (if_neg q).symm)
        refine xj_E.adv 7 (pc' := 73) (ls' := [(0, .ref 32), (1, .int u1), (2, .int u2), (3, .int u3), (4, .int u4)]) (st' := [.int ((2 * u3) + u4), .ref 39]) (w' := (SH, S, T)) rfl ?_
        refine xj_E.iald rfl rfl hd.1 ?_
        have hd := hd.2
        refine xj_E.adv 4 (pc' := (if xj_cmp .ne (S 39 ((2 * u3) + u4).toNatClampNeg) (100 + u1) = true then 102 else 81)) (ls' := [(0, .ref 32), (1, .int u1), (2, .int u2), (3, .int u3), (4, .int u4)]) (st' := []) (w' := (SH, S, T)) rfl ?_
        refine xj_E.b_ne (fun q => ?_) (fun q => ?_)
        · have hd := hd.1 q
          have h := fun v S9 e => h v S9 (Eq.trans e (if_pos q).symm)
          refine xj_E.adv 2 (pc' := 52) (ls' := [(4, .int (u4 + 1)), (0, .ref 32), (1, .int u1), (2, .int u2), (3, .int u3)]) (st' := []) (w' := (SH, S, T)) rfl ?_
          refine xj_E.loc [0, 1, 2, 3, 4] xhth rfl (show xj_E (xX L xs) D 106 52 [(0, .ref 32), (1, .int u1), (2, .int u2), (3, .int u3), (4, .int (u4 + 1))] [] (SH, S, T) P from ?_)
          exact (ih.2.2) _ _ _ _ _ _ _ (by omega) hd h
        · have hd := hd.2 q
          have h := fun v S9 e => h v S9 (Eq.trans e (if_neg q).symm)
          refine xj_E.adv 6 (pc' := 91) (ls' := [(0, .ref 32), (1, .int u1), (2, .int u2), (3, .int u3), (4, .int u4)]) (st' := [.int u2, .ref 49, .int u2, .ref 49]) (w' := (SH, S, T)) rfl ?_
          refine xj_E.iald rfl rfl hd.1 ?_
          have hd := hd.2
          refine xj_E.adv 8 (pc' := 101) (ls' := [(0, .ref 32), (1, .int u1), (2, .int u2), (3, .int u3), (4, .int u4)]) (st' := [.int ((S 49 u2.toNatClampNeg) ||| (1 <<< (((2 * u3) + u4) &&& 31))), .int u2, .ref 49]) (w' := (SH, S, T)) rfl ?_
          refine xj_E.iast rfl rfl hd.1 ?_
          have hd := hd.2
          refine xj_E.adv 2 (pc' := 52) (ls' := [(4, .int (u4 + 1)), (0, .ref 32), (1, .int u1), (2, .int u2), (3, .int u3)]) (st' := []) (w' := (SH, (xj_set S 49 u2.toNatClampNeg ((S 49 u2.toNatClampNeg) ||| (1 <<< (((2 * u3) + u4) &&& 31)))), T)) rfl ?_
          refine xj_E.loc [0, 1, 2, 3, 4] xhth rfl (show xj_E (xX L xs) D 106 52 [(0, .ref 32), (1, .int u1), (2, .int u2), (3, .int u3), (4, .int (u4 + 1))] [] (SH, (xj_set S 49 u2.toNatClampNeg ((S 49 u2.toNatClampNeg) ||| (1 <<< (((2 * u3) + u4) &&& 31)))), T) P from ?_)
          exact (ih.2.2) _ _ _ _ _ _ _ (by omega) hd h
def f_m_markVariable (a : Int32) (S : (Nat → Nat → Int32)) : Int32 × (Nat → Nat → Int32) := (fk_m_markVariable 200).1 a 0 S
def d_m_markVariable (a : Int32) (S : (Nat → Nat → Int32)) : Prop := (dk_m_markVariable 200).1 a 0 S
seal f_m_markVariable d_m_markVariable
set_option maxHeartbeats 4000000 in
set_option maxRecDepth 100000 in
theorem ok_m_markVariable {L : Nat} {xs : Nat → Int32} {T : Nat → Nat → Int64} {D : Nat} {S : (Nat → Nat → Int32)} {P : (Option Value ⊕ Nat) → xj_W → Nat → Nat → Prop} {a : Int32} (hD : 201 ≤ D) (hd : d_m_markVariable a S) (h : ∀ v S9, (v, S9) = f_m_markVariable a S → P (.inl none) (SH, S9, T) 0 0) : xj_E (xX L xs) D 106 0 [(0, .ref 32), (1, .int a)] [] (SH, S, T) P := by
  unfold d_m_markVariable at hd
  unfold f_m_markVariable at h
  refine xj_E.adv 2 (pc' := 2) (ls' := [(2, .int 0), (0, .ref 32), (1, .int a)]) (st' := []) (w' := (SH, S, T)) rfl ?_
  refine xj_E.loc [0, 1, 2] xhth rfl (show xj_E (xX L xs) D 106 2 [(0, .ref 32), (1, .int a), (2, .int 0)] [] (SH, S, T) P from ?_)
  exact ((okk_m_markVariable 200).1) _ _ _ _ _ (by omega) hd h
def f_m_value (a : Int32) (S : (Nat → Nat → Int32)) : Int32 × (Nat → Nat → Int32) := if (r_m_within (xj_set S 32 0 0) a 3) = 0 then ((0, (xj_set S 32 0 0))) else ((S 50 a.toNatClampNeg, (xj_set S 32 0 0)))
def d_m_value (a : Int32) (S : (Nat → Nat → Int32)) : Prop := d_m_within (xj_set S 32 0 0) a 3 ∧ (((r_m_within (xj_set S 32 0 0) a 3) = 0 → (True)) ∧ (¬ ((r_m_within (xj_set S 32 0 0) a 3) = 0) → (vp_in a 4 ∧ (True))))
seal f_m_value d_m_value
set_option maxHeartbeats 4000000 in
set_option maxRecDepth 100000 in
theorem ok_m_value {L : Nat} {xs : Nat → Int32} {T : Nat → Nat → Int64} {D : Nat} {S : (Nat → Nat → Int32)} {P : (Option Value ⊕ Nat) → xj_W → Nat → Nat → Prop} {a : Int32} (hD : 1 ≤ D) (hd : d_m_value a S) (h : ∀ v S9, (v, S9) = f_m_value a S → P (.inl (some (.int v))) (SH, S9, T) 0 0) : xj_E (xX L xs) D 108 0 [(0, .ref 32), (1, .int a)] [] (SH, S, T) P := by
  unfold d_m_value at hd
  unfold f_m_value at h
  obtain ⟨D1, rfl⟩ : ∃ D1, D = D1 + 1 := ⟨D - 1, by omega⟩
  refine xj_E.adv 5 (pc' := 7) (ls' := [(0, .ref 32), (1, .int a)]) (st' := [.int 3, .int a]) (w' := (SH, (xj_set S 32 0 0), T)) rfl ?_
  refine xj_E.calli (d := D1) (S := SH) rfl rfl rfl rfl rfl (xj_E.deep (ok_m_within (d := 0) hd.1 ?_) (by omega))
  intro v e
  subst e
  refine ⟨_, _, _, rfl, rfl, rfl, rfl, ?_⟩
  have hd := hd.2
  refine xj_E.adv 1 (pc' := (if xj_cmp .eq (r_m_within (xj_set S 32 0 0) a 3) 0 = true then 22 else 13)) (ls' := [(0, .ref 32), (1, .int a)]) (st' := []) (w' := (SH, (xj_set S 32 0 0), T)) rfl ?_
  refine xj_E.b_eq (fun q => ?_) (fun q => ?_)
  · have hd := hd.1 q
    have h := fun v S9 e => h v S9 (Eq.trans e (if_pos q).symm)
    refine xj_E.adv 1 (pc' := 23) (ls' := [(0, .ref 32), (1, .int a)]) (st' := [.int 0]) (w' := (SH, (xj_set S 32 0 0), T)) rfl ?_
    exact xj_E.ret rfl rfl rfl rfl (h _ _ rfl)
  · have hd := hd.2 q
    have h := fun v S9 e => h v S9 (Eq.trans e (if_neg q).symm)
    refine xj_E.adv 3 (pc' := 18) (ls' := [(0, .ref 32), (1, .int a)]) (st' := [.int a, .ref 50]) (w' := (SH, (xj_set S 32 0 0), T)) rfl ?_
    refine xj_E.iald rfl rfl hd.1 ?_
    have hd := hd.2
    refine xj_E.adv 1 (pc' := 23) (ls' := [(0, .ref 32), (1, .int a)]) (st' := [.int (S 50 a.toNatClampNeg)]) (w' := (SH, (xj_set S 32 0 0), T)) rfl ?_
    exact xj_E.ret rfl rfl rfl rfl (h _ _ rfl)
def f_m_instances  (S : (Nat → Nat → Int32)) : Int32 × (Nat → Nat → Int32) := (S 32 17, (xj_set S 32 0 0))
def d_m_instances  (S : (Nat → Nat → Int32)) : Prop := True
seal f_m_instances d_m_instances
set_option maxHeartbeats 4000000 in
set_option maxRecDepth 100000 in
theorem ok_m_instances {L : Nat} {xs : Nat → Int32} {T : Nat → Nat → Int64} {D : Nat} {S : (Nat → Nat → Int32)} {P : (Option Value ⊕ Nat) → xj_W → Nat → Nat → Prop} (hD : 0 ≤ D) (hd : d_m_instances  S) (h : ∀ v S9, (v, S9) = f_m_instances  S → P (.inl (some (.int v))) (SH, S9, T) 0 0) : xj_E (xX L xs) D 109 0 [(0, .ref 32)] [] (SH, S, T) P := by
  unfold d_m_instances at hd
  unfold f_m_instances at h
  refine xj_E.adv 5 (pc' := 9) (ls' := [(0, .ref 32)]) (st' := [.int (S 32 17)]) (w' := (SH, (xj_set S 32 0 0), T)) rfl ?_
  exact xj_E.ret rfl rfl rfl rfl (h _ _ rfl)
def f_m_instance (a : Int32) (b : Int32) (S : (Nat → Nat → Int32)) : Int32 × (Nat → Nat → Int32) := if a < 0 then (((-1), (xj_set S 32 0 0))) else (if a < (S 32 17) then (if b = 0 then ((S 45 a.toNatClampNeg, (xj_set S 32 0 0))) else (if b = 1 then ((S 46 a.toNatClampNeg, (xj_set S 32 0 0))) else (if b = 2 then ((S 47 a.toNatClampNeg, (xj_set S 32 0 0))) else (if b = 3 then ((S 48 a.toNatClampNeg, (xj_set S 32 0 0))) else (((-1), (xj_set S 32 0 0))))))) else (((-1), (xj_set S 32 0 0))))
def d_m_instance (a : Int32) (b : Int32) (S : (Nat → Nat → Int32)) : Prop := (a < 0 → (True)) ∧ (¬ (a < 0) → ((a < (S 32 17) → ((b = 0 → (vp_in a 40 ∧ (True))) ∧ (¬ (b = 0) → ((b = 1 → (vp_in a 40 ∧ (True))) ∧ (¬ (b = 1) → ((b = 2 → (vp_in a 40 ∧ (True))) ∧ (¬ (b = 2) → ((b = 3 → (vp_in a 40 ∧ (True))) ∧ (¬ (b = 3) → (True)))))))))) ∧ (¬ (a < (S 32 17)) → (True))))
seal f_m_instance d_m_instance
set_option maxHeartbeats 4000000 in
set_option maxRecDepth 100000 in
theorem ok_m_instance {L : Nat} {xs : Nat → Int32} {T : Nat → Nat → Int64} {D : Nat} {S : (Nat → Nat → Int32)} {P : (Option Value ⊕ Nat) → xj_W → Nat → Nat → Prop} {a b : Int32} (hD : 0 ≤ D) (hd : d_m_instance a b S) (h : ∀ v S9, (v, S9) = f_m_instance a b S → P (.inl (some (.int v))) (SH, S9, T) 0 0) : xj_E (xX L xs) D 110 0 [(0, .ref 32), (1, .int a), (2, .int b)] [] (SH, S, T) P := by
  unfold d_m_instance at hd
  unfold f_m_instance at h
  refine xj_E.adv 5 (pc' := (if xj_cmp .lt a 0 = true then 17 else 9)) (ls' := [(0, .ref 32), (1, .int a), (2, .int b)]) (st' := []) (w' := (SH, (xj_set S 32 0 0), T)) rfl ?_
  refine xj_E.b_lt (fun q => ?_) (fun q => ?_)
  · have hd := hd.1 q
    have h := fun v S9 e => h v S9 (Eq.trans e (if_pos q).symm)
    refine xj_E.adv 1 (pc' := 18) (ls' := [(0, .ref 32), (1, .int a), (2, .int b)]) (st' := [.int (-1)]) (w' := (SH, (xj_set S 32 0 0), T)) rfl ?_
    exact xj_E.ret rfl rfl rfl rfl (h _ _ rfl)
  · have hd := hd.2 q
    have h := fun v S9 e => h v S9 (Eq.trans e (if_neg q).symm)
    refine xj_E.adv 4 (pc' := (if xj_cmp .lt a (S 32 17) = true then 19 else 17)) (ls' := [(0, .ref 32), (1, .int a), (2, .int b)]) (st' := []) (w' := (SH, (xj_set S 32 0 0), T)) rfl ?_
    refine xj_E.b_lt (fun q => ?_) (fun q => ?_)
    · have hd := hd.1 q
      have h := fun v S9 e => h v S9 (Eq.trans e (if_pos q).symm)
      refine xj_E.adv 1 (pc' := 20) (ls' := [(0, .ref 32), (1, .int a), (2, .int b)]) (st' := [.int b]) (w' := (SH, (xj_set S 32 0 0), T)) rfl ?_
      by_cases q0 : b = 0
      · have hd := hd.1 q0
        have h := fun v S9 e => h v S9 (Eq.trans e (if_pos q0).symm)
        refine xj_E.swk q0 ?_
        refine xj_E.adv 1 (pc' := 52) (ls' := [(0, .ref 32), (1, .int a), (2, .int b)]) (st' := []) (w' := (SH, (xj_set S 32 0 0), T)) rfl ?_
        refine xj_E.adv 3 (pc' := 57) (ls' := [(0, .ref 32), (1, .int a), (2, .int b)]) (st' := [.int a, .ref 45]) (w' := (SH, (xj_set S 32 0 0), T)) rfl ?_
        refine xj_E.iald rfl rfl hd.1 ?_
        have hd := hd.2
        exact xj_E.ret rfl rfl rfl rfl (h _ _ rfl)
      · have hd := hd.2 q0
        have h := fun v S9 e => h v S9 (Eq.trans e (if_neg q0).symm)
        by_cases q1 : b = 1
        · have hd := hd.1 q1
          have h := fun v S9 e => h v S9 (Eq.trans e (if_pos q1).symm)
          refine xj_E.swk q1 ?_
          refine xj_E.adv 1 (pc' := 59) (ls' := [(0, .ref 32), (1, .int a), (2, .int b)]) (st' := []) (w' := (SH, (xj_set S 32 0 0), T)) rfl ?_
          refine xj_E.adv 3 (pc' := 64) (ls' := [(0, .ref 32), (1, .int a), (2, .int b)]) (st' := [.int a, .ref 46]) (w' := (SH, (xj_set S 32 0 0), T)) rfl ?_
          refine xj_E.iald rfl rfl hd.1 ?_
          have hd := hd.2
          exact xj_E.ret rfl rfl rfl rfl (h _ _ rfl)
        · have hd := hd.2 q1
          have h := fun v S9 e => h v S9 (Eq.trans e (if_neg q1).symm)
          by_cases q2 : b = 2
          · have hd := hd.1 q2
            have h := fun v S9 e => h v S9 (Eq.trans e (if_pos q2).symm)
            refine xj_E.swk q2 ?_
            refine xj_E.adv 1 (pc' := 66) (ls' := [(0, .ref 32), (1, .int a), (2, .int b)]) (st' := []) (w' := (SH, (xj_set S 32 0 0), T)) rfl ?_
            refine xj_E.adv 3 (pc' := 71) (ls' := [(0, .ref 32), (1, .int a), (2, .int b)]) (st' := [.int a, .ref 47]) (w' := (SH, (xj_set S 32 0 0), T)) rfl ?_
            refine xj_E.iald rfl rfl hd.1 ?_
            have hd := hd.2
            exact xj_E.ret rfl rfl rfl rfl (h _ _ rfl)
          · have hd := hd.2 q2
            have h := fun v S9 e => h v S9 (Eq.trans e (if_neg q2).symm)
            by_cases q3 : b = 3
            · have hd := hd.1 q3
              have h := fun v S9 e => h v S9 (Eq.trans e (if_pos q3).symm)
              refine xj_E.swk q3 ?_
              refine xj_E.adv 1 (pc' := 73) (ls' := [(0, .ref 32), (1, .int a), (2, .int b)]) (st' := []) (w' := (SH, (xj_set S 32 0 0), T)) rfl ?_
              refine xj_E.adv 3 (pc' := 78) (ls' := [(0, .ref 32), (1, .int a), (2, .int b)]) (st' := [.int a, .ref 48]) (w' := (SH, (xj_set S 32 0 0), T)) rfl ?_
              refine xj_E.iald rfl rfl hd.1 ?_
              have hd := hd.2
              exact xj_E.ret rfl rfl rfl rfl (h _ _ rfl)
            · have hd := hd.2 q3
              have h := fun v S9 e => h v S9 (Eq.trans e (if_neg q3).symm)
              refine xj_E.swt rfl (xj_swd (fun z z1 z2 => ?_)) rfl ?_
              · have hz : z = 0 ∨ z = 1 ∨ z = 2 ∨ z = 3 := by omega
                rcases hz with rfl | rfl | rfl | rfl
                · exact fun e => q0 (e.trans (by decide))
                · exact fun e => q1 (e.trans (by decide))
                · exact fun e => q2 (e.trans (by decide))
                · exact fun e => q3 (e.trans (by decide))
              refine xj_E.adv 1 (pc' := 81) (ls' := [(0, .ref 32), (1, .int a), (2, .int b)]) (st' := [.int (-1)]) (w' := (SH, (xj_set S 32 0 0), T)) rfl ?_
              exact xj_E.ret rfl rfl rfl rfl (h _ _ rfl)
    · have hd := hd.2 q
      have h := fun v S9 e => h v S9 (Eq.trans e (if_neg q).symm)
      refine xj_E.adv 1 (pc' := 18) (ls' := [(0, .ref 32), (1, .int a), (2, .int b)]) (st' := [.int (-1)]) (w' := (SH, (xj_set S 32 0 0), T)) rfl ?_
      exact xj_E.ret rfl rfl rfl rfl (h _ _ rfl)
def f_m_marked (a : Int32) (b : Int32) (c : Int32) (S : (Nat → Nat → Int32)) : Int32 × (Nat → Nat → Int32) := if a < 0 then ((0, (xj_set S 32 0 0))) else (if (S 32 17) ≤ a then ((0, (xj_set S 32 0 0))) else (if (r_m_isSentry (xj_set S 32 0 0) b) = 0 then ((0, (xj_set S 32 0 0))) else (if c < 0 then ((0, (xj_set S 32 0 0))) else (if c < (S 38 b.toNatClampNeg) then (if (r_m_isFinal (xj_set S 32 0 0) a) ≠ 0 then ((0, (xj_set S 32 0 0))) else (if (S 36 b.toNatClampNeg) ≠ (S 45 a.toNatClampNeg) then ((0, (xj_set S 32 0 0))) else (if (((S 49 a.toNatClampNeg) >>> (((2 * b) + c) &&& 31)) &&& 1) ≠ 1 then ((0, (xj_set S 32 0 0))) else ((1, (xj_set S 32 0 0)))))) else ((0, (xj_set S 32 0 0)))))))
def d_m_marked (a : Int32) (b : Int32) (c : Int32) (S : (Nat → Nat → Int32)) : Prop := (a < 0 → (True)) ∧ (¬ (a < 0) → (((S 32 17) ≤ a → (True)) ∧ (¬ ((S 32 17) ≤ a) → (d_m_isSentry (xj_set S 32 0 0) b ∧ (((r_m_isSentry (xj_set S 32 0 0) b) = 0 → (True)) ∧ (¬ ((r_m_isSentry (xj_set S 32 0 0) b) = 0) → ((c < 0 → (True)) ∧ (¬ (c < 0) → (vp_in b 16 ∧ ((c < (S 38 b.toNatClampNeg) → (d_m_isFinal (xj_set S 32 0 0) a ∧ (((r_m_isFinal (xj_set S 32 0 0) a) ≠ 0 → (True)) ∧ (¬ ((r_m_isFinal (xj_set S 32 0 0) a) ≠ 0) → (vp_in b 16 ∧ (vp_in a 40 ∧ (((S 36 b.toNatClampNeg) ≠ (S 45 a.toNatClampNeg) → (True)) ∧ (¬ ((S 36 b.toNatClampNeg) ≠ (S 45 a.toNatClampNeg)) → (vp_in a 40 ∧ (((((S 49 a.toNatClampNeg) >>> (((2 * b) + c) &&& 31)) &&& 1) ≠ 1 → (True)) ∧ (¬ ((((S 49 a.toNatClampNeg) >>> (((2 * b) + c) &&& 31)) &&& 1) ≠ 1) → (True)))))))))))) ∧ (¬ (c < (S 38 b.toNatClampNeg)) → (True))))))))))))
seal f_m_marked d_m_marked
set_option maxHeartbeats 4000000 in
set_option maxRecDepth 100000 in
theorem ok_m_marked {L : Nat} {xs : Nat → Int32} {T : Nat → Nat → Int64} {D : Nat} {S : (Nat → Nat → Int32)} {P : (Option Value ⊕ Nat) → xj_W → Nat → Nat → Prop} {a b c : Int32} (hD : 1 ≤ D) (hd : d_m_marked a b c S) (h : ∀ v S9, (v, S9) = f_m_marked a b c S → P (.inl (some (.int v))) (SH, S9, T) 0 0) : xj_E (xX L xs) D 111 0 [(0, .ref 32), (1, .int a), (2, .int b), (3, .int c)] [] (SH, S, T) P := by
  unfold d_m_marked at hd
  unfold f_m_marked at h
  obtain ⟨D1, rfl⟩ : ∃ D1, D = D1 + 1 := ⟨D - 1, by omega⟩
  refine xj_E.adv 5 (pc' := (if xj_cmp .lt a 0 = true then 39 else 9)) (ls' := [(0, .ref 32), (1, .int a), (2, .int b), (3, .int c)]) (st' := []) (w' := (SH, (xj_set S 32 0 0), T)) rfl ?_
  refine xj_E.b_lt (fun q => ?_) (fun q => ?_)
  · have hd := hd.1 q
    have h := fun v S9 e => h v S9 (Eq.trans e (if_pos q).symm)
    refine xj_E.adv 1 (pc' := 40) (ls' := [(0, .ref 32), (1, .int a), (2, .int b), (3, .int c)]) (st' := [.int 0]) (w' := (SH, (xj_set S 32 0 0), T)) rfl ?_
    exact xj_E.ret rfl rfl rfl rfl (h _ _ rfl)
  · have hd := hd.2 q
    have h := fun v S9 e => h v S9 (Eq.trans e (if_neg q).symm)
    refine xj_E.adv 4 (pc' := (if xj_cmp .ge a (S 32 17) = true then 39 else 17)) (ls' := [(0, .ref 32), (1, .int a), (2, .int b), (3, .int c)]) (st' := []) (w' := (SH, (xj_set S 32 0 0), T)) rfl ?_
    refine xj_E.b_ge (fun q => ?_) (fun q => ?_)
    · have hd := hd.1 q
      have h := fun v S9 e => h v S9 (Eq.trans e (if_pos q).symm)
      refine xj_E.adv 1 (pc' := 40) (ls' := [(0, .ref 32), (1, .int a), (2, .int b), (3, .int c)]) (st' := [.int 0]) (w' := (SH, (xj_set S 32 0 0), T)) rfl ?_
      exact xj_E.ret rfl rfl rfl rfl (h _ _ rfl)
    · have hd := hd.2 q
      have h := fun v S9 e => h v S9 (Eq.trans e (if_neg q).symm)
      refine xj_E.adv 2 (pc' := 19) (ls' := [(0, .ref 32), (1, .int a), (2, .int b), (3, .int c)]) (st' := [.int b, .ref 32]) (w' := (SH, (xj_set S 32 0 0), T)) rfl ?_
      refine xj_E.calli (d := D1) (S := SH) rfl rfl rfl rfl rfl (xj_E.deep (ok_m_isSentry (d := 0) hd.1 ?_) (by omega))
      intro v e
      subst e
      refine ⟨_, _, _, rfl, rfl, rfl, rfl, ?_⟩
      have hd := hd.2
      refine xj_E.adv 1 (pc' := (if xj_cmp .eq (r_m_isSentry (xj_set S 32 0 0) b) 0 = true then 39 else 25)) (ls' := [(0, .ref 32), (1, .int a), (2, .int b), (3, .int c)]) (st' := []) (w' := (SH, (xj_set S 32 0 0), T)) rfl ?_
      refine xj_E.b_eq (fun q => ?_) (fun q => ?_)
      · have hd := hd.1 q
        have h := fun v S9 e => h v S9 (Eq.trans e (if_pos q).symm)
        refine xj_E.adv 1 (pc' := 40) (ls' := [(0, .ref 32), (1, .int a), (2, .int b), (3, .int c)]) (st' := [.int 0]) (w' := (SH, (xj_set S 32 0 0), T)) rfl ?_
        exact xj_E.ret rfl rfl rfl rfl (h _ _ rfl)
      · have hd := hd.2 q
        have h := fun v S9 e => h v S9 (Eq.trans e (if_neg q).symm)
        refine xj_E.adv 2 (pc' := (if xj_cmp .lt c 0 = true then 39 else 29)) (ls' := [(0, .ref 32), (1, .int a), (2, .int b), (3, .int c)]) (st' := []) (w' := (SH, (xj_set S 32 0 0), T)) rfl ?_
        refine xj_E.b_lt (fun q => ?_) (fun q => ?_)
        · have hd := hd.1 q
          have h := fun v S9 e => h v S9 (Eq.trans e (if_pos q).symm)
          refine xj_E.adv 1 (pc' := 40) (ls' := [(0, .ref 32), (1, .int a), (2, .int b), (3, .int c)]) (st' := [.int 0]) (w' := (SH, (xj_set S 32 0 0), T)) rfl ?_
          exact xj_E.ret rfl rfl rfl rfl (h _ _ rfl)
        · have hd := hd.2 q
          have h := fun v S9 e => h v S9 (Eq.trans e (if_neg q).symm)
          refine xj_E.adv 4 (pc' := 35) (ls' := [(0, .ref 32), (1, .int a), (2, .int b), (3, .int c)]) (st' := [.int b, .ref 38, .int c]) (w' := (SH, (xj_set S 32 0 0), T)) rfl ?_
          refine xj_E.iald rfl rfl hd.1 ?_
          have hd := hd.2
          refine xj_E.adv 1 (pc' := (if xj_cmp .lt c (S 38 b.toNatClampNeg) = true then 41 else 39)) (ls' := [(0, .ref 32), (1, .int a), (2, .int b), (3, .int c)]) (st' := []) (w' := (SH, (xj_set S 32 0 0), T)) rfl ?_
          refine xj_E.b_lt (fun q => ?_) (fun q => ?_)
          · have hd := hd.1 q
            have h := fun v S9 e => h v S9 (Eq.trans e (if_pos q).symm)
            refine xj_E.adv 2 (pc' := 43) (ls' := [(0, .ref 32), (1, .int a), (2, .int b), (3, .int c)]) (st' := [.int a, .ref 32]) (w' := (SH, (xj_set S 32 0 0), T)) rfl ?_
            refine xj_E.calli (d := D1) (S := SH) rfl rfl rfl rfl rfl (xj_E.deep (ok_m_isFinal (d := 0) hd.1 ?_) (by omega))
            intro v e
            subst e
            refine ⟨_, _, _, rfl, rfl, rfl, rfl, ?_⟩
            have hd := hd.2
            refine xj_E.adv 1 (pc' := (if xj_cmp .ne (r_m_isFinal (xj_set S 32 0 0) a) 0 = true then 86 else 49)) (ls' := [(0, .ref 32), (1, .int a), (2, .int b), (3, .int c)]) (st' := []) (w' := (SH, (xj_set S 32 0 0), T)) rfl ?_
            refine xj_E.b_ne (fun q => ?_) (fun q => ?_)
            · have hd := hd.1 q
              have h := fun v S9 e => h v S9 (Eq.trans e (if_pos q).symm)
              refine xj_E.adv 1 (pc' := 87) (ls' := [(0, .ref 32), (1, .int a), (2, .int b), (3, .int c)]) (st' := [.int 0]) (w' := (SH, (xj_set S 32 0 0), T)) rfl ?_
              exact xj_E.ret rfl rfl rfl rfl (h _ _ rfl)
            · have hd := hd.2 q
              have h := fun v S9 e => h v S9 (Eq.trans e (if_neg q).symm)
              refine xj_E.adv 3 (pc' := 54) (ls' := [(0, .ref 32), (1, .int a), (2, .int b), (3, .int c)]) (st' := [.int b, .ref 36]) (w' := (SH, (xj_set S 32 0 0), T)) rfl ?_
              refine xj_E.iald rfl rfl hd.1 ?_
              have hd := hd.2
              refine xj_E.adv 3 (pc' := 60) (ls' := [(0, .ref 32), (1, .int a), (2, .int b), (3, .int c)]) (st' := [.int a, .ref 45, .int (S 36 b.toNatClampNeg)]) (w' := (SH, (xj_set S 32 0 0), T)) rfl ?_
              refine xj_E.iald rfl rfl hd.1 ?_
              have hd := hd.2
              refine xj_E.adv 1 (pc' := (if xj_cmp .ne (S 36 b.toNatClampNeg) (S 45 a.toNatClampNeg) = true then 86 else 64)) (ls' := [(0, .ref 32), (1, .int a), (2, .int b), (3, .int c)]) (st' := []) (w' := (SH, (xj_set S 32 0 0), T)) rfl ?_
              refine xj_E.b_ne (fun q => ?_) (fun q => ?_)
              · have hd := hd.1 q
                have h := fun v S9 e => h v S9 (Eq.trans e (if_pos q).symm)
                refine xj_E.adv 1 (pc' := 87) (ls' := [(0, .ref 32), (1, .int a), (2, .int b), (3, .int c)]) (st' := [.int 0]) (w' := (SH, (xj_set S 32 0 0), T)) rfl ?_
                exact xj_E.ret rfl rfl rfl rfl (h _ _ rfl)
              · have hd := hd.2 q
                have h := fun v S9 e => h v S9 (Eq.trans e (if_neg q).symm)
                refine xj_E.adv 3 (pc' := 69) (ls' := [(0, .ref 32), (1, .int a), (2, .int b), (3, .int c)]) (st' := [.int a, .ref 49]) (w' := (SH, (xj_set S 32 0 0), T)) rfl ?_
                refine xj_E.iald rfl rfl hd.1 ?_
                have hd := hd.2
                refine xj_E.adv 10 (pc' := (if xj_cmp .ne (((S 49 a.toNatClampNeg) >>> (((2 * b) + c) &&& 31)) &&& 1) 1 = true then 86 else 82)) (ls' := [(0, .ref 32), (1, .int a), (2, .int b), (3, .int c)]) (st' := []) (w' := (SH, (xj_set S 32 0 0), T)) rfl ?_
                refine xj_E.b_ne (fun q => ?_) (fun q => ?_)
                · have hd := hd.1 q
                  have h := fun v S9 e => h v S9 (Eq.trans e (if_pos q).symm)
                  refine xj_E.adv 1 (pc' := 87) (ls' := [(0, .ref 32), (1, .int a), (2, .int b), (3, .int c)]) (st' := [.int 0]) (w' := (SH, (xj_set S 32 0 0), T)) rfl ?_
                  exact xj_E.ret rfl rfl rfl rfl (h _ _ rfl)
                · have hd := hd.2 q
                  have h := fun v S9 e => h v S9 (Eq.trans e (if_neg q).symm)
                  refine xj_E.adv 2 (pc' := 87) (ls' := [(0, .ref 32), (1, .int a), (2, .int b), (3, .int c)]) (st' := [.int 1]) (w' := (SH, (xj_set S 32 0 0), T)) rfl ?_
                  exact xj_E.ret rfl rfl rfl rfl (h _ _ rfl)
          · have hd := hd.2 q
            have h := fun v S9 e => h v S9 (Eq.trans e (if_neg q).symm)
            refine xj_E.adv 1 (pc' := 40) (ls' := [(0, .ref 32), (1, .int a), (2, .int b), (3, .int c)]) (st' := [.int 0]) (w' := (SH, (xj_set S 32 0 0), T)) rfl ?_
            exact xj_E.ret rfl rfl rfl rfl (h _ _ rfl)
def f_m_moves  (S : (Nat → Nat → Int32)) : Int32 × (Nat → Nat → Int32) := (S 32 24, (xj_set S 32 0 0))
def d_m_moves  (S : (Nat → Nat → Int32)) : Prop := True
seal f_m_moves d_m_moves
set_option maxHeartbeats 4000000 in
set_option maxRecDepth 100000 in
theorem ok_m_moves {L : Nat} {xs : Nat → Int32} {T : Nat → Nat → Int64} {D : Nat} {S : (Nat → Nat → Int32)} {P : (Option Value ⊕ Nat) → xj_W → Nat → Nat → Prop} (hD : 0 ≤ D) (hd : d_m_moves  S) (h : ∀ v S9, (v, S9) = f_m_moves  S → P (.inl (some (.int v))) (SH, S9, T) 0 0) : xj_E (xX L xs) D 112 0 [(0, .ref 32)] [] (SH, S, T) P := by
  unfold d_m_moves at hd
  unfold f_m_moves at h
  refine xj_E.adv 5 (pc' := 9) (ls' := [(0, .ref 32)]) (st' := [.int (S 32 24)]) (w' := (SH, (xj_set S 32 0 0), T)) rfl ?_
  exact xj_E.ret rfl rfl rfl rfl (h _ _ rfl)
def f_m_history (a : Int32) (b : Int32) (S : (Nat → Nat → Int32)) : Int32 × (Nat → Nat → Int32) := if a < 0 then (((-1), (xj_set S 32 0 0))) else (if 47 < a then (((-1), (xj_set S 32 0 0))) else (if a < (S 32 24) then (if b ≠ 0 then (if b ≠ 1 then (((-1), (xj_set S 32 0 0))) else ((S 52 ((((S 32 24) - 1) - a) - (((S 32 24) - 1) - a) / 48 * 48).toNatClampNeg, (xj_set S 32 0 0)))) else ((S 51 ((((S 32 24) - 1) - a) - (((S 32 24) - 1) - a) / 48 * 48).toNatClampNeg, (xj_set S 32 0 0)))) else (((-1), (xj_set S 32 0 0)))))
def d_m_history (a : Int32) (b : Int32) (S : (Nat → Nat → Int32)) : Prop := (a < 0 → (True)) ∧ (¬ (a < 0) → ((47 < a → (True)) ∧ (¬ (47 < a) → ((a < (S 32 24) → ((b ≠ 0 → ((b ≠ 1 → (True)) ∧ (¬ (b ≠ 1) → (vp_in ((((S 32 24) - 1) - a) - (((S 32 24) - 1) - a) / 48 * 48) 48 ∧ (True))))) ∧ (¬ (b ≠ 0) → (vp_in ((((S 32 24) - 1) - a) - (((S 32 24) - 1) - a) / 48 * 48) 48 ∧ (True))))) ∧ (¬ (a < (S 32 24)) → (True))))))
seal f_m_history d_m_history
set_option maxHeartbeats 4000000 in
set_option maxRecDepth 100000 in
theorem ok_m_history {L : Nat} {xs : Nat → Int32} {T : Nat → Nat → Int64} {D : Nat} {S : (Nat → Nat → Int32)} {P : (Option Value ⊕ Nat) → xj_W → Nat → Nat → Prop} {a b : Int32} (hD : 0 ≤ D) (hd : d_m_history a b S) (h : ∀ v S9, (v, S9) = f_m_history a b S → P (.inl (some (.int v))) (SH, S9, T) 0 0) : xj_E (xX L xs) D 113 0 [(0, .ref 32), (1, .int a), (2, .int b)] [] (SH, S, T) P := by
  unfold d_m_history at hd
  unfold f_m_history at h
  refine xj_E.adv 5 (pc' := (if xj_cmp .lt a 0 = true then 23 else 9)) (ls' := [(0, .ref 32), (1, .int a), (2, .int b)]) (st' := []) (w' := (SH, (xj_set S 32 0 0), T)) rfl ?_
  refine xj_E.b_lt (fun q => ?_) (fun q => ?_)
  · have hd := hd.1 q
    have h := fun v S9 e => h v S9 (Eq.trans e (if_pos q).symm)
    refine xj_E.adv 1 (pc' := 24) (ls' := [(0, .ref 32), (1, .int a), (2, .int b)]) (st' := [.int (-1)]) (w' := (SH, (xj_set S 32 0 0), T)) rfl ?_
    exact xj_E.ret rfl rfl rfl rfl (h _ _ rfl)
  · have hd := hd.2 q
    have h := fun v S9 e => h v S9 (Eq.trans e (if_neg q).symm)
    refine xj_E.adv 3 (pc' := (if xj_cmp .gt a 47 = true then 23 else 15)) (ls' := [(0, .ref 32), (1, .int a), (2, .int b)]) (st' := []) (w' := (SH, (xj_set S 32 0 0), T)) rfl ?_
    refine xj_E.b_gt (fun q => ?_) (fun q => ?_)
    · have hd := hd.1 q
      have h := fun v S9 e => h v S9 (Eq.trans e (if_pos q).symm)
      refine xj_E.adv 1 (pc' := 24) (ls' := [(0, .ref 32), (1, .int a), (2, .int b)]) (st' := [.int (-1)]) (w' := (SH, (xj_set S 32 0 0), T)) rfl ?_
      exact xj_E.ret rfl rfl rfl rfl (h _ _ rfl)
    · have hd := hd.2 q
      have h := fun v S9 e => h v S9 (Eq.trans e (if_neg q).symm)
      refine xj_E.adv 4 (pc' := (if xj_cmp .lt a (S 32 24) = true then 25 else 23)) (ls' := [(0, .ref 32), (1, .int a), (2, .int b)]) (st' := []) (w' := (SH, (xj_set S 32 0 0), T)) rfl ?_
      refine xj_E.b_lt (fun q => ?_) (fun q => ?_)
      · have hd := hd.1 q
        have h := fun v S9 e => h v S9 (Eq.trans e (if_pos q).symm)
        refine xj_E.adv 11 (pc' := (if xj_cmp .ne b 0 = true then 50 else 41)) (ls' := [(3, .int ((((S 32 24) - 1) - a) - (((S 32 24) - 1) - a) / 48 * 48)), (0, .ref 32), (1, .int a), (2, .int b)]) (st' := []) (w' := (SH, (xj_set S 32 0 0), T)) rfl ?_
        refine xj_E.b_ne (fun q => ?_) (fun q => ?_)
        · have hd := hd.1 q
          have h := fun v S9 e => h v S9 (Eq.trans e (if_pos q).symm)
          refine xj_E.adv 3 (pc' := (if xj_cmp .ne b 1 = true then 64 else 55)) (ls' := [(3, .int ((((S 32 24) - 1) - a) - (((S 32 24) - 1) - a) / 48 * 48)), (0, .ref 32), (1, .int a), (2, .int b)]) (st' := []) (w' := (SH, (xj_set S 32 0 0), T)) rfl ?_
          refine xj_E.b_ne (fun q => ?_) (fun q => ?_)
          · have hd := hd.1 q
            have h := fun v S9 e => h v S9 (Eq.trans e (if_pos q).symm)
            refine xj_E.adv 1 (pc' := 65) (ls' := [(3, .int ((((S 32 24) - 1) - a) - (((S 32 24) - 1) - a) / 48 * 48)), (0, .ref 32), (1, .int a), (2, .int b)]) (st' := [.int (-1)]) (w' := (SH, (xj_set S 32 0 0), T)) rfl ?_
            exact xj_E.ret rfl rfl rfl rfl (h _ _ rfl)
          · have hd := hd.2 q
            have h := fun v S9 e => h v S9 (Eq.trans e (if_neg q).symm)
            refine xj_E.adv 3 (pc' := 60) (ls' := [(3, .int ((((S 32 24) - 1) - a) - (((S 32 24) - 1) - a) / 48 * 48)), (0, .ref 32), (1, .int a), (2, .int b)]) (st' := [.int ((((S 32 24) - 1) - a) - (((S 32 24) - 1) - a) / 48 * 48), .ref 52]) (w' := (SH, (xj_set S 32 0 0), T)) rfl ?_
            refine xj_E.iald rfl rfl hd.1 ?_
            have hd := hd.2
            refine xj_E.adv 1 (pc' := 65) (ls' := [(3, .int ((((S 32 24) - 1) - a) - (((S 32 24) - 1) - a) / 48 * 48)), (0, .ref 32), (1, .int a), (2, .int b)]) (st' := [.int (S 52 ((((S 32 24) - 1) - a) - (((S 32 24) - 1) - a) / 48 * 48).toNatClampNeg)]) (w' := (SH, (xj_set S 32 0 0), T)) rfl ?_
            exact xj_E.ret rfl rfl rfl rfl (h _ _ rfl)
        · have hd := hd.2 q
          have h := fun v S9 e => h v S9 (Eq.trans e (if_neg q).symm)
          refine xj_E.adv 3 (pc' := 46) (ls' := [(3, .int ((((S 32 24) - 1) - a) - (((S 32 24) - 1) - a) / 48 * 48)), (0, .ref 32), (1, .int a), (2, .int b)]) (st' := [.int ((((S 32 24) - 1) - a) - (((S 32 24) - 1) - a) / 48 * 48), .ref 51]) (w' := (SH, (xj_set S 32 0 0), T)) rfl ?_
          refine xj_E.iald rfl rfl hd.1 ?_
          have hd := hd.2
          refine xj_E.adv 1 (pc' := 65) (ls' := [(3, .int ((((S 32 24) - 1) - a) - (((S 32 24) - 1) - a) / 48 * 48)), (0, .ref 32), (1, .int a), (2, .int b)]) (st' := [.int (S 51 ((((S 32 24) - 1) - a) - (((S 32 24) - 1) - a) / 48 * 48).toNatClampNeg)]) (w' := (SH, (xj_set S 32 0 0), T)) rfl ?_
          exact xj_E.ret rfl rfl rfl rfl (h _ _ rfl)
      · have hd := hd.2 q
        have h := fun v S9 e => h v S9 (Eq.trans e (if_neg q).symm)
        refine xj_E.adv 1 (pc' := 24) (ls' := [(0, .ref 32), (1, .int a), (2, .int b)]) (st' := [.int (-1)]) (w' := (SH, (xj_set S 32 0 0), T)) rfl ?_
        exact xj_E.ret rfl rfl rfl rfl (h _ _ rfl)
def fk_c_markSiblings : Nat → (Int32 → Int32 → Int32 → (Nat → Nat → Int32) → (Int32 × (Nat → Nat → Int32)))
  | 0 => (fun _ _ _ S => (0, S))
  | n + 1 => (fun u1 u2 u3 S => if (S 14 1) ≤ u3 then ((0, S)) else (if u3 = u1 then (fk_c_markSiblings n u1 u2 (u3 + 1) S) else (if (S 16 u3.toNatClampNeg) ≠ (S 16 u1.toNatClampNeg) then (fk_c_markSiblings n u1 u2 (u3 + 1) S) else (match f_c_mark u3 u2 S with | (_, S1) => fk_c_markSiblings n u1 u2 (u3 + 1) S1))))
def dk_c_markSiblings : Nat → (Int32 → Int32 → Int32 → (Nat → Nat → Int32) → Prop)
  | 0 => (fun _ _ _ S => False)
  | n + 1 => (fun u1 u2 u3 S => ((S 14 1) ≤ u3 → (True)) ∧ (¬ ((S 14 1) ≤ u3) → ((u3 = u1 → (dk_c_markSiblings n u1 u2 (u3 + 1) S)) ∧ (¬ (u3 = u1) → (vp_in u3 40 ∧ (vp_in u1 40 ∧ (((S 16 u3.toNatClampNeg) ≠ (S 16 u1.toNatClampNeg) → (dk_c_markSiblings n u1 u2 (u3 + 1) S)) ∧ (¬ ((S 16 u3.toNatClampNeg) ≠ (S 16 u1.toNatClampNeg)) → (d_c_mark u3 u2 S ∧ (match f_c_mark u3 u2 S with | (_, S1) => dk_c_markSiblings n u1 u2 (u3 + 1) S1))))))))))
set_option maxHeartbeats 4000000 in
set_option maxRecDepth 100000 in
theorem okk_c_markSiblings {L : Nat} {xs : Nat → Int32} {T : Nat → Nat → Int64} (n : Nat) : (∀ (u1 : Int32) (u2 : Int32) (u3 : Int32) S D (P : (Option Value ⊕ Nat) → xj_W → Nat → Nat → Prop), 2 + n ≤ D → dk_c_markSiblings n u1 u2 u3 S → (∀ v S9, (v, S9) = fk_c_markSiblings n u1 u2 u3 S → P (.inl none) (SH, S9, T) 0 0) → xj_E (xX L xs) D 59 2 [(0, .ref 0), (1, .int u1), (2, .int u2), (3, .int u3)] [] (SH, S, T) P) := by
  induction n with
  | zero => exact fun _ _ _ _ _ _ _ hd _ => hd.elim
  | succ n ih =>
    refine ?_
    · intro u1 u2 u3 S D P hD hd h
      obtain ⟨D1, rfl⟩ : ∃ D1, D = D1 + 1 := ⟨D - 1, by omega⟩
      refine xj_E.adv 5 (pc' := (if xj_cmp .ge u3 (S 14 1) = true then 51 else 13)) (ls' := [(0, .ref 0), (1, .int u1), (2, .int u2), (3, .int u3)]) (st' := []) (w' := (SH, S, T)) rfl ?_
      refine xj_E.b_ge (fun q => ?_) (fun q => ?_)
      · have hd := hd.1 q
        have h := fun v S9 e => h v S9 (Eq.trans e (if_pos q).symm)
        exact xj_E.ret rfl rfl rfl rfl (h _ _ rfl)
      · have hd := hd.2 q
        have h := fun v S9 e => h v S9 (Eq.trans e (if_neg q).symm)
        refine xj_E.adv 3 (pc' := (if xj_cmp .eq u3 u1 = true then 45 else 18)) (ls' := [(0, .ref 0), (1, .int u1), (2, .int u2), (3, .int u3)]) (st' := []) (w' := (SH, S, T)) rfl ?_
        refine xj_E.b_eq (fun q => ?_) (fun q => ?_)
        · have hd := hd.1 q
          have h := fun v S9 e => h v S9 (Eq.trans e (if_pos q).symm)
          refine xj_E.adv 2 (pc' := 2) (ls' := [(3, .int (u3 + 1)), (0, .ref 0), (1, .int u1), (2, .int u2)]) (st' := []) (w' := (SH, S, T)) rfl ?_
          refine xj_E.loc [0, 1, 2, 3] xhth rfl (show xj_E (xX L xs) (D1 + 1) 59 2 [(0, .ref 0), (1, .int u1), (2, .int u2), (3, .int (u3 + 1))] [] (SH, S, T) P from ?_)
          exact (ih) _ _ _ _ _ _ (by omega) hd h
        · have hd := hd.2 q
          have h := fun v S9 e => h v S9 (Eq.trans e (if_neg q).symm)
          refine xj_E.adv 4 (pc' := 26) (ls' := [(0, .ref 0), (1, .int u1), (2, .int u2), (3, .int u3)]) (st' := [.int u3, .ref 16]) (w' := (SH, S, T)) rfl ?_
          refine xj_E.iald rfl rfl hd.1 ?_
          have hd := hd.2
          refine xj_E.adv 4 (pc' := 35) (ls' := [(0, .ref 0), (1, .int u1), (2, .int u2), (3, .int u3)]) (st' := [.int u1, .ref 16, .int (S 16 u3.toNatClampNeg)]) (w' := (SH, S, T)) rfl ?_
          refine xj_E.iald rfl rfl hd.1 ?_
          have hd := hd.2
          refine xj_E.adv 1 (pc' := (if xj_cmp .ne (S 16 u3.toNatClampNeg) (S 16 u1.toNatClampNeg) = true then 45 else 39)) (ls' := [(0, .ref 0), (1, .int u1), (2, .int u2), (3, .int u3)]) (st' := []) (w' := (SH, S, T)) rfl ?_
          refine xj_E.b_ne (fun q => ?_) (fun q => ?_)
          · have hd := hd.1 q
            have h := fun v S9 e => h v S9 (Eq.trans e (if_pos q).symm)
            refine xj_E.adv 2 (pc' := 2) (ls' := [(3, .int (u3 + 1)), (0, .ref 0), (1, .int u1), (2, .int u2)]) (st' := []) (w' := (SH, S, T)) rfl ?_
            refine xj_E.loc [0, 1, 2, 3] xhth rfl (show xj_E (xX L xs) (D1 + 1) 59 2 [(0, .ref 0), (1, .int u1), (2, .int u2), (3, .int (u3 + 1))] [] (SH, S, T) P from ?_)
            exact (ih) _ _ _ _ _ _ (by omega) hd h
          · have hd := hd.2 q
            have h := fun v S9 e => h v S9 (Eq.trans e (if_neg q).symm)
            refine xj_E.adv 3 (pc' := 42) (ls' := [(0, .ref 0), (1, .int u1), (2, .int u2), (3, .int u3)]) (st' := [.int u2, .int u3, .ref 0]) (w' := (SH, S, T)) rfl ?_
            refine xj_E.callv (d := D1) (S := SH) rfl rfl rfl rfl rfl (ok_c_mark (by omega) hd.1 ?_)
            intro v1 S1 e1
            refine ⟨_, _, rfl, rfl, rfl, rfl, ?_⟩
            have hd := hd.2
            rw [← e1] at hd h
            refine xj_E.adv 2 (pc' := 2) (ls' := [(3, .int (u3 + 1)), (0, .ref 0), (1, .int u1), (2, .int u2)]) (st' := []) (w' := (SH, S1, T)) rfl ?_
            refine xj_E.loc [0, 1, 2, 3] xhth rfl (show xj_E (xX L xs) (D1 + 1) 59 2 [(0, .ref 0), (1, .int u1), (2, .int u2), (3, .int (u3 + 1))] [] (SH, S1, T) P from ?_)
            exact (ih) _ _ _ _ _ _ (by omega) hd h
def f_c_markSiblings (a : Int32) (b : Int32) (S : (Nat → Nat → Int32)) : Int32 × (Nat → Nat → Int32) := fk_c_markSiblings 200 a b 0 S
def d_c_markSiblings (a : Int32) (b : Int32) (S : (Nat → Nat → Int32)) : Prop := dk_c_markSiblings 200 a b 0 S
seal f_c_markSiblings d_c_markSiblings
set_option maxHeartbeats 4000000 in
set_option maxRecDepth 100000 in
theorem ok_c_markSiblings {L : Nat} {xs : Nat → Int32} {T : Nat → Nat → Int64} {D : Nat} {S : (Nat → Nat → Int32)} {P : (Option Value ⊕ Nat) → xj_W → Nat → Nat → Prop} {a b : Int32} (hD : 202 ≤ D) (hd : d_c_markSiblings a b S) (h : ∀ v S9, (v, S9) = f_c_markSiblings a b S → P (.inl none) (SH, S9, T) 0 0) : xj_E (xX L xs) D 59 0 [(0, .ref 0), (1, .int a), (2, .int b)] [] (SH, S, T) P := by
  unfold d_c_markSiblings at hd
  unfold f_c_markSiblings at h
  refine xj_E.adv 2 (pc' := 2) (ls' := [(3, .int 0), (0, .ref 0), (1, .int a), (2, .int b)]) (st' := []) (w' := (SH, S, T)) rfl ?_
  refine xj_E.loc [0, 1, 2, 3] xhth rfl (show xj_E (xX L xs) D 59 2 [(0, .ref 0), (1, .int a), (2, .int b), (3, .int 0)] [] (SH, S, T) P from ?_)
  exact ((okk_c_markSiblings 200)) _ _ _ _ _ _ (by omega) hd h
def fk_c_markAll : Nat → (Int32 → Int32 → (Nat → Nat → Int32) → (Int32 × (Nat → Nat → Int32)))
  | 0 => (fun _ _ S => (0, S))
  | n + 1 => (fun u1 u2 S => if (S 14 1) ≤ u2 then ((0, S)) else (match f_c_mark u2 u1 S with | (_, S1) => fk_c_markAll n u1 (u2 + 1) S1))
def dk_c_markAll : Nat → (Int32 → Int32 → (Nat → Nat → Int32) → Prop)
  | 0 => (fun _ _ S => False)
  | n + 1 => (fun u1 u2 S => ((S 14 1) ≤ u2 → (True)) ∧ (¬ ((S 14 1) ≤ u2) → (d_c_mark u2 u1 S ∧ (match f_c_mark u2 u1 S with | (_, S1) => dk_c_markAll n u1 (u2 + 1) S1))))
set_option maxHeartbeats 4000000 in
set_option maxRecDepth 100000 in
theorem okk_c_markAll {L : Nat} {xs : Nat → Int32} {T : Nat → Nat → Int64} (n : Nat) : (∀ (u1 : Int32) (u2 : Int32) S D (P : (Option Value ⊕ Nat) → xj_W → Nat → Nat → Prop), 2 + n ≤ D → dk_c_markAll n u1 u2 S → (∀ v S9, (v, S9) = fk_c_markAll n u1 u2 S → P (.inl none) (SH, S9, T) 0 0) → xj_E (xX L xs) D 60 2 [(0, .ref 0), (1, .int u1), (2, .int u2)] [] (SH, S, T) P) := by
  induction n with
  | zero => exact fun _ _ _ _ _ _ hd _ => hd.elim
  | succ n ih =>
    refine ?_
    · intro u1 u2 S D P hD hd h
      obtain ⟨D1, rfl⟩ : ∃ D1, D = D1 + 1 := ⟨D - 1, by omega⟩
      refine xj_E.adv 5 (pc' := (if xj_cmp .ge u2 (S 14 1) = true then 25 else 13)) (ls' := [(0, .ref 0), (1, .int u1), (2, .int u2)]) (st' := []) (w' := (SH, S, T)) rfl ?_
      refine xj_E.b_ge (fun q => ?_) (fun q => ?_)
      · have hd := hd.1 q
        have h := fun v S9 e => h v S9 (Eq.trans e (if_pos q).symm)
        exact xj_E.ret rfl rfl rfl rfl (h _ _ rfl)
      · have hd := hd.2 q
        have h := fun v S9 e => h v S9 (Eq.trans e (if_neg q).symm)
        refine xj_E.adv 3 (pc' := 16) (ls' := [(0, .ref 0), (1, .int u1), (2, .int u2)]) (st' := [.int u1, .int u2, .ref 0]) (w' := (SH, S, T)) rfl ?_
        refine xj_E.callv (d := D1) (S := SH) rfl rfl rfl rfl rfl (ok_c_mark (by omega) hd.1 ?_)
        intro v1 S1 e1
        refine ⟨_, _, rfl, rfl, rfl, rfl, ?_⟩
        have hd := hd.2
        rw [← e1] at hd h
        refine xj_E.adv 2 (pc' := 2) (ls' := [(2, .int (u2 + 1)), (0, .ref 0), (1, .int u1)]) (st' := []) (w' := (SH, S1, T)) rfl ?_
        refine xj_E.loc [0, 1, 2] xhth rfl (show xj_E (xX L xs) (D1 + 1) 60 2 [(0, .ref 0), (1, .int u1), (2, .int (u2 + 1))] [] (SH, S1, T) P from ?_)
        exact (ih) _ _ _ _ _ (by omega) hd h
def f_c_markAll (a : Int32) (S : (Nat → Nat → Int32)) : Int32 × (Nat → Nat → Int32) := fk_c_markAll 200 a 0 S
def d_c_markAll (a : Int32) (S : (Nat → Nat → Int32)) : Prop := dk_c_markAll 200 a 0 S
seal f_c_markAll d_c_markAll
set_option maxHeartbeats 4000000 in
set_option maxRecDepth 100000 in
theorem ok_c_markAll {L : Nat} {xs : Nat → Int32} {T : Nat → Nat → Int64} {D : Nat} {S : (Nat → Nat → Int32)} {P : (Option Value ⊕ Nat) → xj_W → Nat → Nat → Prop} {a : Int32} (hD : 202 ≤ D) (hd : d_c_markAll a S) (h : ∀ v S9, (v, S9) = f_c_markAll a S → P (.inl none) (SH, S9, T) 0 0) : xj_E (xX L xs) D 60 0 [(0, .ref 0), (1, .int a)] [] (SH, S, T) P := by
  unfold d_c_markAll at hd
  unfold f_c_markAll at h
  refine xj_E.adv 2 (pc' := 2) (ls' := [(2, .int 0), (0, .ref 0), (1, .int a)]) (st' := []) (w' := (SH, S, T)) rfl ?_
  refine xj_E.loc [0, 1, 2] xhth rfl (show xj_E (xX L xs) D 60 2 [(0, .ref 0), (1, .int a), (2, .int 0)] [] (SH, S, T) P from ?_)
  exact ((okk_c_markAll 200)) _ _ _ _ _ (by omega) hd h
def fk_m_enter : Nat → (Int32 → Int32 → Int32 → Int32 → (Nat → Nat → Int32) → (Int32 × (Nat → Nat → Int32)))
  | 0 => (fun _ _ _ _ S => (0, S))
  | n + 1 => (fun u1 u2 u3 u4 S => if (S 32 1) ≤ u4 then (if u3 = 0 then (match f_m_again u1 u2 S with | (_, S1) => (0, S1)) else (if u2 = 4 then ((0, (xj_set (xj_set (xj_set (xj_set S 61 (S 32 39).toNatClampNeg u1) 62 (S 32 39).toNatClampNeg u2) 63 (S 32 39).toNatClampNeg 0) 32 39 ((S 32 39) + 1)))) else (if u2 = 9 then ((0, (xj_set (xj_set (xj_set (xj_set S 61 (S 32 39).toNatClampNeg u1) 62 (S 32 39).toNatClampNeg u2) 63 (S 32 39).toNatClampNeg 0) 32 39 ((S 32 39) + 1)))) else (if u2 = 5 then ((0, (xj_set (xj_set (xj_set (xj_set S 61 (S 32 39).toNatClampNeg u1) 62 (S 32 39).toNatClampNeg u2) 63 (S 32 39).toNatClampNeg 0) 32 39 ((S 32 39) + 1)))) else (if u2 ≠ 6 then (match f_m_again u1 u2 S with | (_, S2) => (0, S2)) else ((0, (xj_set (xj_set (xj_set (xj_set S 61 (S 32 39).toNatClampNeg u1) 62 (S 32 39).toNatClampNeg u2) 63 (S 32 39).toNatClampNeg 0) 32 39 ((S 32 39) + 1))))))))) else (if (S 34 u4.toNatClampNeg) ≠ (S 45 u1.toNatClampNeg) then (fk_m_enter n u1 u2 u3 (u4 + 1) S) else (match f_m_create u4 u1 S with | (_, S3) => fk_m_enter n u1 u2 u3 (u4 + 1) S3)))
def dk_m_enter : Nat → (Int32 → Int32 → Int32 → Int32 → (Nat → Nat → Int32) → Prop)
  | 0 => (fun _ _ _ _ S => False)
  | n + 1 => (fun u1 u2 u3 u4 S => ((S 32 1) ≤ u4 → ((u3 = 0 → (d_m_again u1 u2 S ∧ (match f_m_again u1 u2 S with | (_, S1) => True))) ∧ (¬ (u3 = 0) → ((u2 = 4 → (vp_in (S 32 39) 16 ∧ (vp_in (S 32 39) 16 ∧ (vp_in (S 32 39) 16 ∧ (True))))) ∧ (¬ (u2 = 4) → ((u2 = 9 → (vp_in (S 32 39) 16 ∧ (vp_in (S 32 39) 16 ∧ (vp_in (S 32 39) 16 ∧ (True))))) ∧ (¬ (u2 = 9) → ((u2 = 5 → (vp_in (S 32 39) 16 ∧ (vp_in (S 32 39) 16 ∧ (vp_in (S 32 39) 16 ∧ (True))))) ∧ (¬ (u2 = 5) → ((u2 ≠ 6 → (d_m_again u1 u2 S ∧ (match f_m_again u1 u2 S with | (_, S2) => True))) ∧ (¬ (u2 ≠ 6) → (vp_in (S 32 39) 16 ∧ (vp_in (S 32 39) 16 ∧ (vp_in (S 32 39) 16 ∧ (True))))))))))))))) ∧ (¬ ((S 32 1) ≤ u4) → (vp_in u4 12 ∧ (vp_in u1 40 ∧ (((S 34 u4.toNatClampNeg) ≠ (S 45 u1.toNatClampNeg) → (dk_m_enter n u1 u2 u3 (u4 + 1) S)) ∧ (¬ ((S 34 u4.toNatClampNeg) ≠ (S 45 u1.toNatClampNeg)) → (d_m_create u4 u1 S ∧ (match f_m_create u4 u1 S with | (_, S3) => dk_m_enter n u1 u2 u3 (u4 + 1) S3))))))))
set_option maxHeartbeats 4000000 in
set_option maxRecDepth 100000 in
theorem okk_m_enter {L : Nat} {xs : Nat → Int32} {T : Nat → Nat → Int64} (n : Nat) : (∀ (u1 : Int32) (u2 : Int32) (u3 : Int32) (u4 : Int32) S D (P : (Option Value ⊕ Nat) → xj_W → Nat → Nat → Prop), 204 + n ≤ D → dk_m_enter n u1 u2 u3 u4 S → (∀ v S9, (v, S9) = fk_m_enter n u1 u2 u3 u4 S → P (.inl none) (SH, S9, T) 0 0) → xj_E (xX L xs) D 85 52 [(0, .ref 32), (1, .int u1), (2, .int u2), (3, .int u3), (4, .int u4)] [] (SH, S, T) P) := by
  induction n with
  | zero => exact fun _ _ _ _ _ _ _ _ hd _ => hd.elim
  | succ n ih =>
    refine ?_
    · intro u1 u2 u3 u4 S D P hD hd h
      obtain ⟨D1, rfl⟩ : ∃ D1, D = D1 + 1 := ⟨D - 1, by omega⟩
      refine xj_E.adv 4 (pc' := (if xj_cmp .ge u4 (S 32 1) = true then 90 else 61)) (ls' := [(0, .ref 32), (1, .int u1), (2, .int u2), (3, .int u3), (4, .int u4)]) (st' := []) (w' := (SH, S, T)) rfl ?_
      refine xj_E.b_ge (fun q => ?_) (fun q => ?_)
      · have hd := hd.1 q
        have h := fun v S9 e => h v S9 (Eq.trans e (if_pos q).symm)
        refine xj_E.adv 2 (pc' := (if xj_cmp .eq u3 0 = true then 159 else 94)) (ls' := [(0, .ref 32), (1, .int u1), (2, .int u2), (3, .int u3), (4, .int u4)]) (st' := []) (w' := (SH, S, T)) rfl ?_
        refine xj_E.b_eq (fun q => ?_) (fun q => ?_)
        · have hd := hd.1 q
          have h := fun v S9 e => h v S9 (Eq.trans e (if_pos q).symm)
          refine xj_E.adv 3 (pc' := 162) (ls' := [(0, .ref 32), (1, .int u1), (2, .int u2), (3, .int u3), (4, .int u4)]) (st' := [.int u2, .int u1, .ref 32]) (w' := (SH, S, T)) rfl ?_
          refine xj_E.callv (d := D1) (S := SH) rfl rfl rfl rfl rfl (ok_m_again (by omega) hd.1 ?_)
          intro v1 S1 e1
          refine ⟨_, _, rfl, rfl, rfl, rfl, ?_⟩
          have hd := hd.2
          rw [← e1] at hd h
          exact xj_E.ret rfl rfl rfl rfl (h _ _ rfl)
        · have hd := hd.2 q
          have h := fun v S9 e => h v S9 (Eq.trans e (if_neg q).symm)
          refine xj_E.adv 3 (pc' := (if xj_cmp .eq u2 4 = true then 116 else 99)) (ls' := [(0, .ref 32), (1, .int u1), (2, .int u2), (3, .int u3), (4, .int u4)]) (st' := []) (w' := (SH, S, T)) rfl ?_
          refine xj_E.b_eq (fun q => ?_) (fun q => ?_)
          · have hd := hd.1 q
            have h := fun v S9 e => h v S9 (Eq.trans e (if_pos q).symm)
            refine xj_E.adv 5 (pc' := 125) (ls' := [(0, .ref 32), (1, .int u1), (2, .int u2), (3, .int u3), (4, .int u4)]) (st' := [.int u1, .int (S 32 39), .ref 61]) (w' := (SH, S, T)) rfl ?_
            refine xj_E.iast rfl rfl hd.1 ?_
            have hd := hd.2
            refine xj_E.adv 5 (pc' := 135) (ls' := [(0, .ref 32), (1, .int u1), (2, .int u2), (3, .int u3), (4, .int u4)]) (st' := [.int u2, .int (S 32 39), .ref 62]) (w' := (SH, (xj_set S 61 (S 32 39).toNatClampNeg u1), T)) rfl ?_
            refine xj_E.iast rfl rfl hd.1 ?_
            have hd := hd.2
            refine xj_E.adv 5 (pc' := 145) (ls' := [(0, .ref 32), (1, .int u1), (2, .int u2), (3, .int u3), (4, .int u4)]) (st' := [.int 0, .int (S 32 39), .ref 63]) (w' := (SH, (xj_set (xj_set S 61 (S 32 39).toNatClampNeg u1) 62 (S 32 39).toNatClampNeg u2), T)) rfl ?_
            refine xj_E.iast rfl rfl hd.1 ?_
            have hd := hd.2
            refine xj_E.adv 7 (pc' := 165) (ls' := [(0, .ref 32), (1, .int u1), (2, .int u2), (3, .int u3), (4, .int u4)]) (st' := []) (w' := (SH, (xj_set (xj_set (xj_set (xj_set S 61 (S 32 39).toNatClampNeg u1) 62 (S 32 39).toNatClampNeg u2) 63 (S 32 39).toNatClampNeg 0) 32 39 ((S 32 39) + 1)), T)) rfl ?_
            exact xj_E.ret rfl rfl rfl rfl (h _ _ rfl)
          · have hd := hd.2 q
            have h := fun v S9 e => h v S9 (Eq.trans e (if_neg q).symm)
            refine xj_E.adv 3 (pc' := (if xj_cmp .eq u2 9 = true then 116 else 105)) (ls' := [(0, .ref 32), (1, .int u1), (2, .int u2), (3, .int u3), (4, .int u4)]) (st' := []) (w' := (SH, S, T)) rfl ?_
            refine xj_E.b_eq (fun q => ?_) (fun q => ?_)
            · have hd := hd.1 q
              have h := fun v S9 e => h v S9 (Eq.trans e (if_pos q).symm)
              refine xj_E.adv 5 (pc' := 125) (ls' := [(0, .ref 32), (1, .int u1), (2, .int u2), (3, .int u3), (4, .int u4)]) (st' := [.int u1, .int (S 32 39), .ref 61]) (w' := (SH, S, T)) rfl ?_
              refine xj_E.iast rfl rfl hd.1 ?_
              have hd := hd.2
              refine xj_E.adv 5 (pc' := 135) (ls' := [(0, .ref 32), (1, .int u1), (2, .int u2), (3, .int u3), (4, .int u4)]) (st' := [.int u2, .int (S 32 39), .ref 62]) (w' := (SH, (xj_set S 61 (S 32 39).toNatClampNeg u1), T)) rfl ?_
              refine xj_E.iast rfl rfl hd.1 ?_
              have hd := hd.2
              refine xj_E.adv 5 (pc' := 145) (ls' := [(0, .ref 32), (1, .int u1), (2, .int u2), (3, .int u3), (4, .int u4)]) (st' := [.int 0, .int (S 32 39), .ref 63]) (w' := (SH, (xj_set (xj_set S 61 (S 32 39).toNatClampNeg u1) 62 (S 32 39).toNatClampNeg u2), T)) rfl ?_
              refine xj_E.iast rfl rfl hd.1 ?_
              have hd := hd.2
              refine xj_E.adv 7 (pc' := 165) (ls' := [(0, .ref 32), (1, .int u1), (2, .int u2), (3, .int u3), (4, .int u4)]) (st' := []) (w' := (SH, (xj_set (xj_set (xj_set (xj_set S 61 (S 32 39).toNatClampNeg u1) 62 (S 32 39).toNatClampNeg u2) 63 (S 32 39).toNatClampNeg 0) 32 39 ((S 32 39) + 1)), T)) rfl ?_
              exact xj_E.ret rfl rfl rfl rfl (h _ _ rfl)
            · have hd := hd.2 q
              have h := fun v S9 e => h v S9 (Eq.trans e (if_neg q).symm)
              refine xj_E.adv 3 (pc' := (if xj_cmp .eq u2 5 = true then 116 else 110)) (ls' := [(0, .ref 32), (1, .int u1), (2, .int u2), (3, .int u3), (4, .int u4)]) (st' := []) (w' := (SH, S, T)) rfl ?_
              refine xj_E.b_eq (fun q => ?_) (fun q => ?_)
              · have hd := hd.1 q
                have h := fun v S9 e => h v S9 (Eq.trans e (if_pos q).symm)
                refine xj_E.adv 5 (pc' := 125) (ls' := [(0, .ref 32), (1, .int u1), (2, .int u2), (3, .int u3), (4, .int u4)]) (st' := [.int u1, .int (S 32 39), .ref 61]) (w' := (SH, S, T)) rfl ?_
                refine xj_E.iast rfl rfl hd.1 ?_
                have hd := hd.2
                refine xj_E.adv 5 (pc' := 135) (ls' := [(0, .ref 32), (1, .int u1), (2, .int u2), (3, .int u3), (4, .int u4)]) (st' := [.int u2, .int (S 32 39), .ref 62]) (w' := (SH, (xj_set S 61 (S 32 39).toNatClampNeg u1), T)) rfl ?_
                refine xj_E.iast rfl rfl hd.1 ?_
                have hd := hd.2
                refine xj_E.adv 5 (pc' := 145) (ls' := [(0, .ref 32), (1, .int u1), (2, .int u2), (3, .int u3), (4, .int u4)]) (st' := [.int 0, .int (S 32 39), .ref 63]) (w' := (SH, (xj_set (xj_set S 61 (S 32 39).toNatClampNeg u1) 62 (S 32 39).toNatClampNeg u2), T)) rfl ?_
                refine xj_E.iast rfl rfl hd.1 ?_
                have hd := hd.2
                refine xj_E.adv 7 (pc' := 165) (ls' := [(0, .ref 32), (1, .int u1), (2, .int u2), (3, .int u3), (4, .int u4)]) (st' := []) (w' := (SH, (xj_set (xj_set (xj_set (xj_set S 61 (S 32 39).toNatClampNeg u1) 62 (S 32 39).toNatClampNeg u2) 63 (S 32 39).toNatClampNeg 0) 32 39 ((S 32 39) + 1)), T)) rfl ?_
                exact xj_E.ret rfl rfl rfl rfl (h _ _ rfl)
              · have hd := hd.2 q
                have h := fun v S9 e => h v S9 (Eq.trans e (if_neg q).symm)
                refine xj_E.adv 3 (pc' := (if xj_cmp .ne u2 6 = true then 159 else 116)) (ls' := [(0, .ref 32), (1, .int u1), (2, .int u2), (3, .int u3), (4, .int u4)]) (st' := []) (w' := (SH, S, T)) rfl ?_
                refine xj_E.b_ne (fun q => ?_) (fun q => ?_)
                · have hd := hd.1 q
                  have h := fun v S9 e => h v S9 (Eq.trans e (if_pos q).symm)
                  refine xj_E.adv 3 (pc' := 162) (ls' := [(0, .ref 32), (1, .int u1), (2, .int u2), (3, .int u3), (4, .int u4)]) (st' := [.int u2, .int u1, .ref 32]) (w' := (SH, S, T)) rfl ?_
                  refine xj_E.callv (d := D1) (S := SH) rfl rfl rfl rfl rfl (ok_m_again (by omega) hd.1 ?_)
                  intro v2 S2 e2
                  refine ⟨_, _, rfl, rfl, rfl, rfl, ?_⟩
                  have hd := hd.2
                  rw [← e2] at hd h
                  exact xj_E.ret rfl rfl rfl rfl (h _ _ rfl)
                · have hd := hd.2 q
                  have h := fun v S9 e => h v S9 (Eq.trans e (if_neg q).symm)
                  refine xj_E.adv 5 (pc' := 125) (ls' := [(0, .ref 32), (1, .int u1), (2, .int u2), (3, .int u3), (4, .int u4)]) (st' := [.int u1, .int (S 32 39), .ref 61]) (w' := (SH, S, T)) rfl ?_
                  refine xj_E.iast rfl rfl hd.1 ?_
                  have hd := hd.2
                  refine xj_E.adv 5 (pc' := 135) (ls' := [(0, .ref 32), (1, .int u1), (2, .int u2), (3, .int u3), (4, .int u4)]) (st' := [.int u2, .int (S 32 39), .ref 62]) (w' := (SH, (xj_set S 61 (S 32 39).toNatClampNeg u1), T)) rfl ?_
                  refine xj_E.iast rfl rfl hd.1 ?_
                  have hd := hd.2
                  refine xj_E.adv 5 (pc' := 145) (ls' := [(0, .ref 32), (1, .int u1), (2, .int u2), (3, .int u3), (4, .int u4)]) (st' := [.int 0, .int (S 32 39), .ref 63]) (w' := (SH, (xj_set (xj_set S 61 (S 32 39).toNatClampNeg u1) 62 (S 32 39).toNatClampNeg u2), T)) rfl ?_
                  refine xj_E.iast rfl rfl hd.1 ?_
                  have hd := hd.2
                  refine xj_E.adv 7 (pc' := 165) (ls' := [(0, .ref 32), (1, .int u1), (2, .int u2), (3, .int u3), (4, .int u4)]) (st' := []) (w' := (SH, (xj_set (xj_set (xj_set (xj_set S 61 (S 32 39).toNatClampNeg u1) 62 (S 32 39).toNatClampNeg u2) 63 (S 32 39).toNatClampNeg 0) 32 39 ((S 32 39) + 1)), T)) rfl ?_
                  exact xj_E.ret rfl rfl rfl rfl (h _ _ rfl)
      · have hd := hd.2 q
        have h := fun v S9 e => h v S9 (Eq.trans e (if_neg q).symm)
        refine xj_E.adv 3 (pc' := 67) (ls' := [(0, .ref 32), (1, .int u1), (2, .int u2), (3, .int u3), (4, .int u4)]) (st' := [.int u4, .ref 34]) (w' := (SH, S, T)) rfl ?_
        refine xj_E.iald rfl rfl hd.1 ?_
        have hd := hd.2
        refine xj_E.adv 3 (pc' := 73) (ls' := [(0, .ref 32), (1, .int u1), (2, .int u2), (3, .int u3), (4, .int u4)]) (st' := [.int u1, .ref 45, .int (S 34 u4.toNatClampNeg)]) (w' := (SH, S, T)) rfl ?_
        refine xj_E.iald rfl rfl hd.1 ?_
        have hd := hd.2
        refine xj_E.adv 1 (pc' := (if xj_cmp .ne (S 34 u4.toNatClampNeg) (S 45 u1.toNatClampNeg) = true then 84 else 77)) (ls' := [(0, .ref 32), (1, .int u1), (2, .int u2), (3, .int u3), (4, .int u4)]) (st' := []) (w' := (SH, S, T)) rfl ?_
        refine xj_E.b_ne (fun q => ?_) (fun q => ?_)
        · have hd := hd.1 q
          have h := fun v S9 e => h v S9 (Eq.trans e (if_pos q).symm)
          refine xj_E.adv 2 (pc' := 52) (ls' := [(4, .int (u4 + 1)), (0, .ref 32), (1, .int u1), (2, .int u2), (3, .int u3)]) (st' := []) (w' := (SH, S, T)) rfl ?_
          refine xj_E.loc [0, 1, 2, 3, 4] xhth rfl (show xj_E (xX L xs) (D1 + 1) 85 52 [(0, .ref 32), (1, .int u1), (2, .int u2), (3, .int u3), (4, .int (u4 + 1))] [] (SH, S, T) P from ?_)
          exact (ih) _ _ _ _ _ _ _ (by omega) hd h
        · have hd := hd.2 q
          have h := fun v S9 e => h v S9 (Eq.trans e (if_neg q).symm)
          refine xj_E.adv 3 (pc' := 81) (ls' := [(0, .ref 32), (1, .int u1), (2, .int u2), (3, .int u3), (4, .int u4)]) (st' := [.int u1, .int u4, .ref 32]) (w' := (SH, S, T)) rfl ?_
          refine xj_E.callv (d := D1) (S := SH) rfl rfl rfl rfl rfl (ok_m_create (by omega) hd.1 ?_)
          intro v3 S3 e3
          refine ⟨_, _, rfl, rfl, rfl, rfl, ?_⟩
          have hd := hd.2
          rw [← e3] at hd h
          refine xj_E.adv 2 (pc' := 52) (ls' := [(4, .int (u4 + 1)), (0, .ref 32), (1, .int u1), (2, .int u2), (3, .int u3)]) (st' := []) (w' := (SH, S3, T)) rfl ?_
          refine xj_E.loc [0, 1, 2, 3, 4] xhth rfl (show xj_E (xX L xs) (D1 + 1) 85 52 [(0, .ref 32), (1, .int u1), (2, .int u2), (3, .int u3), (4, .int (u4 + 1))] [] (SH, S3, T) P from ?_)
          exact (ih) _ _ _ _ _ _ _ (by omega) hd h
def f_m_enter (a : Int32) (b : Int32) (S : (Nat → Nat → Int32)) : Int32 × (Nat → Nat → Int32) := match f_m_book a b S with | (v1, S1) => if v1 ≠ 0 then (match f_m_mark a b (xj_set S1 47 a.toNatClampNeg (r_m_target S1 b)) with | (_, S2) => if (r_m_kindOf S2 a) ≠ 0 then (match f_m_again a b S2 with | (_, S3) => (0, S3)) else (if b ≠ 2 then (if b = 4 then ((0, (xj_set (xj_set (xj_set (xj_set S2 61 (S2 32 39).toNatClampNeg a) 62 (S2 32 39).toNatClampNeg b) 63 (S2 32 39).toNatClampNeg 0) 32 39 ((S2 32 39) + 1)))) else (if b = 9 then ((0, (xj_set (xj_set (xj_set (xj_set S2 61 (S2 32 39).toNatClampNeg a) 62 (S2 32 39).toNatClampNeg b) 63 (S2 32 39).toNatClampNeg 0) 32 39 ((S2 32 39) + 1)))) else (if b = 5 then ((0, (xj_set (xj_set (xj_set (xj_set S2 61 (S2 32 39).toNatClampNeg a) 62 (S2 32 39).toNatClampNeg b) 63 (S2 32 39).toNatClampNeg 0) 32 39 ((S2 32 39) + 1)))) else (if b ≠ 6 then (match f_m_again a b S2 with | (_, S4) => (0, S4)) else ((0, (xj_set (xj_set (xj_set (xj_set S2 61 (S2 32 39).toNatClampNeg a) 62 (S2 32 39).toNatClampNeg b) 63 (S2 32 39).toNatClampNeg 0) 32 39 ((S2 32 39) + 1)))))))) else (fk_m_enter 200 a b 1 1 S2))) else ((0, S1))
def d_m_enter (a : Int32) (b : Int32) (S : (Nat → Nat → Int32)) : Prop := d_m_book a b S ∧ (match f_m_book a b S with | (v1, S1) => (v1 ≠ 0 → (d_m_target S1 b ∧ (vp_in a 40 ∧ (d_m_mark a b (xj_set S1 47 a.toNatClampNeg (r_m_target S1 b)) ∧ (match f_m_mark a b (xj_set S1 47 a.toNatClampNeg (r_m_target S1 b)) with | (_, S2) => d_m_kindOf S2 a ∧ (((r_m_kindOf S2 a) ≠ 0 → (d_m_again a b S2 ∧ (match f_m_again a b S2 with | (_, S3) => True))) ∧ (¬ ((r_m_kindOf S2 a) ≠ 0) → ((b ≠ 2 → ((b = 4 → (vp_in (S2 32 39) 16 ∧ (vp_in (S2 32 39) 16 ∧ (vp_in (S2 32 39) 16 ∧ (True))))) ∧ (¬ (b = 4) → ((b = 9 → (vp_in (S2 32 39) 16 ∧ (vp_in (S2 32 39) 16 ∧ (vp_in (S2 32 39) 16 ∧ (True))))) ∧ (¬ (b = 9) → ((b = 5 → (vp_in (S2 32 39) 16 ∧ (vp_in (S2 32 39) 16 ∧ (vp_in (S2 32 39) 16 ∧ (True))))) ∧ (¬ (b = 5) → ((b ≠ 6 → (d_m_again a b S2 ∧ (match f_m_again a b S2 with | (_, S4) => True))) ∧ (¬ (b ≠ 6) → (vp_in (S2 32 39) 16 ∧ (vp_in (S2 32 39) 16 ∧ (vp_in (S2 32 39) 16 ∧ (True))))))))))))) ∧ (¬ (b ≠ 2) → (dk_m_enter 200 a b 1 1 S2)))))))))) ∧ (¬ (v1 ≠ 0) → (True)))
seal f_m_enter d_m_enter
set_option maxHeartbeats 4000000 in
set_option maxRecDepth 100000 in
theorem ok_m_enter {L : Nat} {xs : Nat → Int32} {T : Nat → Nat → Int64} {D : Nat} {S : (Nat → Nat → Int32)} {P : (Option Value ⊕ Nat) → xj_W → Nat → Nat → Prop} {a b : Int32} (hD : 404 ≤ D) (hd : d_m_enter a b S) (h : ∀ v S9, (v, S9) = f_m_enter a b S → P (.inl none) (SH, S9, T) 0 0) : xj_E (xX L xs) D 85 0 [(0, .ref 32), (1, .int a), (2, .int b)] [] (SH, S, T) P := by
  unfold d_m_enter at hd
  unfold f_m_enter at h
  obtain ⟨D1, rfl⟩ : ∃ D1, D = D1 + 1 := ⟨D - 1, by omega⟩
  refine xj_E.adv 3 (pc' := 3) (ls' := [(0, .ref 32), (1, .int a), (2, .int b)]) (st' := [.int b, .int a, .ref 32]) (w' := (SH, S, T)) rfl ?_
  refine xj_E.calli (d := D1) (S := SH) rfl rfl rfl rfl rfl (ok_m_book (by omega) hd.1 ?_)
  intro v1 S1 e1
  refine ⟨_, _, _, rfl, rfl, rfl, rfl, ?_⟩
  have hd := hd.2
  rw [← e1] at hd h
  refine xj_E.adv 1 (pc' := (if xj_cmp .ne v1 0 = true then 10 else 9)) (ls' := [(0, .ref 32), (1, .int a), (2, .int b)]) (st' := []) (w' := (SH, S1, T)) rfl ?_
  refine xj_E.b_ne (fun q => ?_) (fun q => ?_)
  · have hd := hd.1 q
    have h := fun v S9 e => h v S9 (Eq.trans e (if_pos q).symm)
    refine xj_E.adv 4 (pc' := 16) (ls' := [(0, .ref 32), (1, .int a), (2, .int b)]) (st' := [.int b, .int a, .ref 47]) (w' := (SH, S1, T)) rfl ?_
    refine xj_E.calli (d := D1) (S := SH) rfl rfl rfl rfl rfl (xj_E.deep (ok_m_target (d := 0) hd.1 ?_) (by omega))
    intro v e
    subst e
    refine ⟨_, _, _, rfl, rfl, rfl, rfl, ?_⟩
    have hd := hd.2
    refine xj_E.iast rfl rfl hd.1 ?_
    have hd := hd.2
    refine xj_E.adv 3 (pc' := 23) (ls' := [(0, .ref 32), (1, .int a), (2, .int b)]) (st' := [.int b, .int a, .ref 32]) (w' := (SH, (xj_set S1 47 a.toNatClampNeg (r_m_target S1 b)), T)) rfl ?_
    refine xj_E.callv (d := D1) (S := SH) rfl rfl rfl rfl rfl (ok_m_mark (by omega) hd.1 ?_)
    intro v2 S2 e2
    refine ⟨_, _, rfl, rfl, rfl, rfl, ?_⟩
    have hd := hd.2
    rw [← e2] at hd h
    refine xj_E.adv 2 (pc' := 28) (ls' := [(0, .ref 32), (1, .int a), (2, .int b)]) (st' := [.int a, .ref 32]) (w' := (SH, S2, T)) rfl ?_
    refine xj_E.calli (d := D1) (S := SH) rfl rfl rfl rfl rfl (xj_E.deep (ok_m_kindOf (d := 0) hd.1 ?_) (by omega))
    intro v e
    subst e
    refine ⟨_, _, _, rfl, rfl, rfl, rfl, ?_⟩
    have hd := hd.2
    refine xj_E.adv 1 (pc' := (if xj_cmp .ne (r_m_kindOf S2 a) 0 = true then 38 else 34)) (ls' := [(0, .ref 32), (1, .int a), (2, .int b)]) (st' := []) (w' := (SH, S2, T)) rfl ?_
    refine xj_E.b_ne (fun q => ?_) (fun q => ?_)
    · have hd := hd.1 q
      have h := fun v S9 e => h v S9 (Eq.trans e (if_pos q).symm)
      refine xj_E.adv 9 (pc' := 162) (ls' := [(3, .int 0), (0, .ref 32), (1, .int a), (2, .int b)]) (st' := [.int b, .int a, .ref 32]) (w' := (SH, S2, T)) rfl ?_
      refine xj_E.callv (d := D1) (S := SH) rfl rfl rfl rfl rfl (ok_m_again (by omega) hd.1 ?_)
      intro v3 S3 e3
      refine ⟨_, _, rfl, rfl, rfl, rfl, ?_⟩
      have hd := hd.2
      rw [← e3] at hd h
      exact xj_E.ret rfl rfl rfl rfl (h _ _ rfl)
    · have hd := hd.2 q
      have h := fun v S9 e => h v S9 (Eq.trans e (if_neg q).symm)
      refine xj_E.adv 8 (pc' := (if xj_cmp .ne b 2 = true then 90 else 49)) (ls' := [(3, .int 1), (0, .ref 32), (1, .int a), (2, .int b)]) (st' := []) (w' := (SH, S2, T)) rfl ?_
      refine xj_E.b_ne (fun q => ?_) (fun q => ?_)
      · have hd := hd.1 q
        have h := fun v S9 e => h v S9 (Eq.trans e (if_pos q).symm)
        refine xj_E.adv 5 (pc' := (if xj_cmp .eq b 4 = true then 116 else 99)) (ls' := [(3, .int 1), (0, .ref 32), (1, .int a), (2, .int b)]) (st' := []) (w' := (SH, S2, T)) rfl ?_
        refine xj_E.b_eq (fun q => ?_) (fun q => ?_)
        · have hd := hd.1 q
          have h := fun v S9 e => h v S9 (Eq.trans e (if_pos q).symm)
          refine xj_E.adv 5 (pc' := 125) (ls' := [(3, .int 1), (0, .ref 32), (1, .int a), (2, .int b)]) (st' := [.int a, .int (S2 32 39), .ref 61]) (w' := (SH, S2, T)) rfl ?_
          refine xj_E.iast rfl rfl hd.1 ?_
          have hd := hd.2
          refine xj_E.adv 5 (pc' := 135) (ls' := [(3, .int 1), (0, .ref 32), (1, .int a), (2, .int b)]) (st' := [.int b, .int (S2 32 39), .ref 62]) (w' := (SH, (xj_set S2 61 (S2 32 39).toNatClampNeg a), T)) rfl ?_
          refine xj_E.iast rfl rfl hd.1 ?_
          have hd := hd.2
          refine xj_E.adv 5 (pc' := 145) (ls' := [(3, .int 1), (0, .ref 32), (1, .int a), (2, .int b)]) (st' := [.int 0, .int (S2 32 39), .ref 63]) (w' := (SH, (xj_set (xj_set S2 61 (S2 32 39).toNatClampNeg a) 62 (S2 32 39).toNatClampNeg b), T)) rfl ?_
          refine xj_E.iast rfl rfl hd.1 ?_
          have hd := hd.2
          refine xj_E.adv 7 (pc' := 165) (ls' := [(3, .int 1), (0, .ref 32), (1, .int a), (2, .int b)]) (st' := []) (w' := (SH, (xj_set (xj_set (xj_set (xj_set S2 61 (S2 32 39).toNatClampNeg a) 62 (S2 32 39).toNatClampNeg b) 63 (S2 32 39).toNatClampNeg 0) 32 39 ((S2 32 39) + 1)), T)) rfl ?_
          exact xj_E.ret rfl rfl rfl rfl (h _ _ rfl)
        · have hd := hd.2 q
          have h := fun v S9 e => h v S9 (Eq.trans e (if_neg q).symm)
          refine xj_E.adv 3 (pc' := (if xj_cmp .eq b 9 = true then 116 else 105)) (ls' := [(3, .int 1), (0, .ref 32), (1, .int a), (2, .int b)]) (st' := []) (w' := (SH, S2, T)) rfl ?_
          refine xj_E.b_eq (fun q => ?_) (fun q => ?_)
          · have hd := hd.1 q
            have h := fun v S9 e => h v S9 (Eq.trans e (if_pos q).symm)
            refine xj_E.adv 5 (pc' := 125) (ls' := [(3, .int 1), (0, .ref 32), (1, .int a), (2, .int b)]) (st' := [.int a, .int (S2 32 39), .ref 61]) (w' := (SH, S2, T)) rfl ?_
            refine xj_E.iast rfl rfl hd.1 ?_
            have hd := hd.2
            refine xj_E.adv 5 (pc' := 135) (ls' := [(3, .int 1), (0, .ref 32), (1, .int a), (2, .int b)]) (st' := [.int b, .int (S2 32 39), .ref 62]) (w' := (SH, (xj_set S2 61 (S2 32 39).toNatClampNeg a), T)) rfl ?_
            refine xj_E.iast rfl rfl hd.1 ?_
            have hd := hd.2
            refine xj_E.adv 5 (pc' := 145) (ls' := [(3, .int 1), (0, .ref 32), (1, .int a), (2, .int b)]) (st' := [.int 0, .int (S2 32 39), .ref 63]) (w' := (SH, (xj_set (xj_set S2 61 (S2 32 39).toNatClampNeg a) 62 (S2 32 39).toNatClampNeg b), T)) rfl ?_
            refine xj_E.iast rfl rfl hd.1 ?_
            have hd := hd.2
            refine xj_E.adv 7 (pc' := 165) (ls' := [(3, .int 1), (0, .ref 32), (1, .int a), (2, .int b)]) (st' := []) (w' := (SH, (xj_set (xj_set (xj_set (xj_set S2 61 (S2 32 39).toNatClampNeg a) 62 (S2 32 39).toNatClampNeg b) 63 (S2 32 39).toNatClampNeg 0) 32 39 ((S2 32 39) + 1)), T)) rfl ?_
            exact xj_E.ret rfl rfl rfl rfl (h _ _ rfl)
          · have hd := hd.2 q
            have h := fun v S9 e => h v S9 (Eq.trans e (if_neg q).symm)
            refine xj_E.adv 3 (pc' := (if xj_cmp .eq b 5 = true then 116 else 110)) (ls' := [(3, .int 1), (0, .ref 32), (1, .int a), (2, .int b)]) (st' := []) (w' := (SH, S2, T)) rfl ?_
            refine xj_E.b_eq (fun q => ?_) (fun q => ?_)
            · have hd := hd.1 q
              have h := fun v S9 e => h v S9 (Eq.trans e (if_pos q).symm)
              refine xj_E.adv 5 (pc' := 125) (ls' := [(3, .int 1), (0, .ref 32), (1, .int a), (2, .int b)]) (st' := [.int a, .int (S2 32 39), .ref 61]) (w' := (SH, S2, T)) rfl ?_
              refine xj_E.iast rfl rfl hd.1 ?_
              have hd := hd.2
              refine xj_E.adv 5 (pc' := 135) (ls' := [(3, .int 1), (0, .ref 32), (1, .int a), (2, .int b)]) (st' := [.int b, .int (S2 32 39), .ref 62]) (w' := (SH, (xj_set S2 61 (S2 32 39).toNatClampNeg a), T)) rfl ?_
              refine xj_E.iast rfl rfl hd.1 ?_
              have hd := hd.2
              refine xj_E.adv 5 (pc' := 145) (ls' := [(3, .int 1), (0, .ref 32), (1, .int a), (2, .int b)]) (st' := [.int 0, .int (S2 32 39), .ref 63]) (w' := (SH, (xj_set (xj_set S2 61 (S2 32 39).toNatClampNeg a) 62 (S2 32 39).toNatClampNeg b), T)) rfl ?_
              refine xj_E.iast rfl rfl hd.1 ?_
              have hd := hd.2
              refine xj_E.adv 7 (pc' := 165) (ls' := [(3, .int 1), (0, .ref 32), (1, .int a), (2, .int b)]) (st' := []) (w' := (SH, (xj_set (xj_set (xj_set (xj_set S2 61 (S2 32 39).toNatClampNeg a) 62 (S2 32 39).toNatClampNeg b) 63 (S2 32 39).toNatClampNeg 0) 32 39 ((S2 32 39) + 1)), T)) rfl ?_
              exact xj_E.ret rfl rfl rfl rfl (h _ _ rfl)
            · have hd := hd.2 q
              have h := fun v S9 e => h v S9 (Eq.trans e (if_neg q).symm)
              refine xj_E.adv 3 (pc' := (if xj_cmp .ne b 6 = true then 159 else 116)) (ls' := [(3, .int 1), (0, .ref 32), (1, .int a), (2, .int b)]) (st' := []) (w' := (SH, S2, T)) rfl ?_
              refine xj_E.b_ne (fun q => ?_) (fun q => ?_)
              · have hd := hd.1 q
                have h := fun v S9 e => h v S9 (Eq.trans e (if_pos q).symm)
                refine xj_E.adv 3 (pc' := 162) (ls' := [(3, .int 1), (0, .ref 32), (1, .int a), (2, .int b)]) (st' := [.int b, .int a, .ref 32]) (w' := (SH, S2, T)) rfl ?_
                refine xj_E.callv (d := D1) (S := SH) rfl rfl rfl rfl rfl (ok_m_again (by omega) hd.1 ?_)
                intro v4 S4 e4
                refine ⟨_, _, rfl, rfl, rfl, rfl, ?_⟩
                have hd := hd.2
                rw [← e4] at hd h
                exact xj_E.ret rfl rfl rfl rfl (h _ _ rfl)
              · have hd := hd.2 q
                have h := fun v S9 e => h v S9 (Eq.trans e (if_neg q).symm)
                refine xj_E.adv 5 (pc' := 125) (ls' := [(3, .int 1), (0, .ref 32), (1, .int a), (2, .int b)]) (st' := [.int a, .int (S2 32 39), .ref 61]) (w' := (SH, S2, T)) rfl ?_
                refine xj_E.iast rfl rfl hd.1 ?_
                have hd := hd.2
                refine xj_E.adv 5 (pc' := 135) (ls' := [(3, .int 1), (0, .ref 32), (1, .int a), (2, .int b)]) (st' := [.int b, .int (S2 32 39), .ref 62]) (w' := (SH, (xj_set S2 61 (S2 32 39).toNatClampNeg a), T)) rfl ?_
                refine xj_E.iast rfl rfl hd.1 ?_
                have hd := hd.2
                refine xj_E.adv 5 (pc' := 145) (ls' := [(3, .int 1), (0, .ref 32), (1, .int a), (2, .int b)]) (st' := [.int 0, .int (S2 32 39), .ref 63]) (w' := (SH, (xj_set (xj_set S2 61 (S2 32 39).toNatClampNeg a) 62 (S2 32 39).toNatClampNeg b), T)) rfl ?_
                refine xj_E.iast rfl rfl hd.1 ?_
                have hd := hd.2
                refine xj_E.adv 7 (pc' := 165) (ls' := [(3, .int 1), (0, .ref 32), (1, .int a), (2, .int b)]) (st' := []) (w' := (SH, (xj_set (xj_set (xj_set (xj_set S2 61 (S2 32 39).toNatClampNeg a) 62 (S2 32 39).toNatClampNeg b) 63 (S2 32 39).toNatClampNeg 0) 32 39 ((S2 32 39) + 1)), T)) rfl ?_
                exact xj_E.ret rfl rfl rfl rfl (h _ _ rfl)
      · have hd := hd.2 q
        have h := fun v S9 e => h v S9 (Eq.trans e (if_neg q).symm)
        refine xj_E.adv 2 (pc' := 52) (ls' := [(4, .int 1), (3, .int 1), (0, .ref 32), (1, .int a), (2, .int b)]) (st' := []) (w' := (SH, S2, T)) rfl ?_
        refine xj_E.loc [0, 1, 2, 3, 4] xhth rfl (show xj_E (xX L xs) (D1 + 1) 85 52 [(0, .ref 32), (1, .int a), (2, .int b), (3, .int 1), (4, .int 1)] [] (SH, S2, T) P from ?_)
        exact ((okk_m_enter 200)) _ _ _ _ _ _ _ (by omega) hd h
  · have hd := hd.2 q
    have h := fun v S9 e => h v S9 (Eq.trans e (if_neg q).symm)
    exact xj_E.ret rfl rfl rfl rfl (h _ _ rfl)
def fk_m_make : Nat → ((Nat → Nat → Int32) → (Int32 × (Nat → Nat → Int32))) × (Int32 → Int32 → Int32 → (Nat → Nat → Int32) → (Int32 × (Nat → Nat → Int32)))
  | 0 => (fun S => (0, S), fun _ _ _ S => (0, S))
  | n + 1 => (fun S => if (S 32 39) ≤ 0 then ((0, S)) else (if (S 32 38) ≠ 0 then ((0, S)) else ((fk_m_make n).2 (S 61 ((S 32 39) - 1).toNatClampNeg) (S 62 ((S 32 39) - 1).toNatClampNeg) (S 63 ((S 32 39) - 1).toNatClampNeg) S)),
    fun u3 u4 u5 S => if (S 32 17) ≤ u5 then (if (S 32 17) ≤ u5 then (match f_m_again u3 u4 (xj_set (xj_set S 63 ((S 32 39) - 1).toNatClampNeg (u5 + 1)) 32 39 ((S 32 39) - 1)) with | (_, S1) => (fk_m_make n).1 S1) else (if u4 ≠ 4 then (match f_m_enter u5 u4 (xj_set S 63 ((S 32 39) - 1).toNatClampNeg (u5 + 1)) with | (_, S2) => (fk_m_make n).1 S2) else (match f_m_enter u5 9 (xj_set S 63 ((S 32 39) - 1).toNatClampNeg (u5 + 1)) with | (_, S3) => (fk_m_make n).1 S3))) else (if (S 46 u5.toNatClampNeg) ≠ u3 then ((fk_m_make n).2 u3 u4 (u5 + 1) S) else (if (r_m_follows S u5 u4) ≠ 0 then (if (S 32 17) ≤ u5 then (match f_m_again u3 u4 (xj_set (xj_set S 63 ((S 32 39) - 1).toNatClampNeg (u5 + 1)) 32 39 ((S 32 39) - 1)) with | (_, S4) => (fk_m_make n).1 S4) else (if u4 ≠ 4 then (match f_m_enter u5 u4 (xj_set S 63 ((S 32 39) - 1).toNatClampNeg (u5 + 1)) with | (_, S5) => (fk_m_make n).1 S5) else (match f_m_enter u5 9 (xj_set S 63 ((S 32 39) - 1).toNatClampNeg (u5 + 1)) with | (_, S6) => (fk_m_make n).1 S6))) else ((fk_m_make n).2 u3 u4 (u5 + 1) S))))
def dk_m_make : Nat → ((Nat → Nat → Int32) → Prop) × (Int32 → Int32 → Int32 → (Nat → Nat → Int32) → Prop)
  | 0 => (fun S => False, fun _ _ _ S => False)
  | n + 1 => (fun S => ((S 32 39) ≤ 0 → (True)) ∧ (¬ ((S 32 39) ≤ 0) → (((S 32 38) ≠ 0 → (True)) ∧ (¬ ((S 32 38) ≠ 0) → (vp_in ((S 32 39) - 1) 16 ∧ (vp_in ((S 32 39) - 1) 16 ∧ (vp_in ((S 32 39) - 1) 16 ∧ ((dk_m_make n).2 (S 61 ((S 32 39) - 1).toNatClampNeg) (S 62 ((S 32 39) - 1).toNatClampNeg) (S 63 ((S 32 39) - 1).toNatClampNeg) S))))))),
    fun u3 u4 u5 S => ((S 32 17) ≤ u5 → (vp_in ((S 32 39) - 1) 16 ∧ (((S 32 17) ≤ u5 → (d_m_again u3 u4 (xj_set (xj_set S 63 ((S 32 39) - 1).toNatClampNeg (u5 + 1)) 32 39 ((S 32 39) - 1)) ∧ (match f_m_again u3 u4 (xj_set (xj_set S 63 ((S 32 39) - 1).toNatClampNeg (u5 + 1)) 32 39 ((S 32 39) - 1)) with | (_, S1) => (dk_m_make n).1 S1))) ∧ (¬ ((S 32 17) ≤ u5) → ((u4 ≠ 4 → (d_m_enter u5 u4 (xj_set S 63 ((S 32 39) - 1).toNatClampNeg (u5 + 1)) ∧ (match f_m_enter u5 u4 (xj_set S 63 ((S 32 39) - 1).toNatClampNeg (u5 + 1)) with | (_, S2) => (dk_m_make n).1 S2))) ∧ (¬ (u4 ≠ 4) → (d_m_enter u5 9 (xj_set S 63 ((S 32 39) - 1).toNatClampNeg (u5 + 1)) ∧ (match f_m_enter u5 9 (xj_set S 63 ((S 32 39) - 1).toNatClampNeg (u5 + 1)) with | (_, S3) => (dk_m_make n).1 S3)))))))) ∧ (¬ ((S 32 17) ≤ u5) → (vp_in u5 40 ∧ (((S 46 u5.toNatClampNeg) ≠ u3 → ((dk_m_make n).2 u3 u4 (u5 + 1) S)) ∧ (¬ ((S 46 u5.toNatClampNeg) ≠ u3) → (d_m_follows S u5 u4 ∧ (((r_m_follows S u5 u4) ≠ 0 → (vp_in ((S 32 39) - 1) 16 ∧ (((S 32 17) ≤ u5 → (d_m_again u3 u4 (xj_set (xj_set S 63 ((S 32 39) - 1).toNatClampNeg (u5 + 1)) 32 39 ((S 32 39) - 1)) ∧ (match f_m_again u3 u4 (xj_set (xj_set S 63 ((S 32 39) - 1).toNatClampNeg (u5 + 1)) 32 39 ((S 32 39) - 1)) with | (_, S4) => (dk_m_make n).1 S4))) ∧ (¬ ((S 32 17) ≤ u5) → ((u4 ≠ 4 → (d_m_enter u5 u4 (xj_set S 63 ((S 32 39) - 1).toNatClampNeg (u5 + 1)) ∧ (match f_m_enter u5 u4 (xj_set S 63 ((S 32 39) - 1).toNatClampNeg (u5 + 1)) with | (_, S5) => (dk_m_make n).1 S5))) ∧ (¬ (u4 ≠ 4) → (d_m_enter u5 9 (xj_set S 63 ((S 32 39) - 1).toNatClampNeg (u5 + 1)) ∧ (match f_m_enter u5 9 (xj_set S 63 ((S 32 39) - 1).toNatClampNeg (u5 + 1)) with | (_, S6) => (dk_m_make n).1 S6)))))))) ∧ (¬ ((r_m_follows S u5 u4) ≠ 0) → ((dk_m_make n).2 u3 u4 (u5 + 1) S)))))))))
set_option maxHeartbeats 4000000 in
set_option maxRecDepth 100000 in
theorem okk_m_make {L : Nat} {xs : Nat → Int32} {T : Nat → Nat → Int64} (n : Nat) : (∀  S D (P : (Option Value ⊕ Nat) → xj_W → Nat → Nat → Prop), 405 + n ≤ D → (dk_m_make n).1  S → (∀ v S9, (v, S9) = (fk_m_make n).1  S → P (.inl none) (SH, S9, T) 0 0) → xj_E (xX L xs) D 88 11 [(0, .ref 32)] [] (SH, S, T) P) ∧
    (∀ (u3 : Int32) (u4 : Int32) (u5 : Int32) S D (P : (Option Value ⊕ Nat) → xj_W → Nat → Nat → Prop), 405 + n ≤ D → (dk_m_make n).2 u3 u4 u5 S → (∀ v S9, (v, S9) = (fk_m_make n).2 u3 u4 u5 S → P (.inl none) (SH, S9, T) 0 0) → xj_E (xX L xs) D 88 63 [(0, .ref 32), (3, .int u3), (4, .int u4), (5, .int u5)] [] (SH, S, T) P) := by
  induction n with
  | zero => exact ⟨fun _ _ _ _ hd _ => hd.elim, fun _ _ _ _ _ _ _ hd _ => hd.elim⟩
  | succ n ih =>
    refine ⟨?_, ?_⟩
    · intro  S D P hD hd h
      refine xj_E.adv 3 (pc' := (if xj_cmp .le (S 32 39) 0 = true then 166 else 18)) (ls' := [(0, .ref 32)]) (st' := []) (w' := (SH, S, T)) rfl ?_
      refine xj_E.b_le (fun q => ?_) (fun q => ?_)
      · have hd := hd.1 q
        have h := fun v S9 e => h v S9 (Eq.trans e (if_pos q).symm)
        exact xj_E.ret rfl rfl rfl rfl (h _ _ rfl)
      · have hd := hd.2 q
        have h := fun v S9 e => h v S9 (Eq.trans e (if_neg q).symm)
        refine xj_E.adv 3 (pc' := (if xj_cmp .ne (S 32 38) 0 = true then 166 else 25)) (ls' := [(0, .ref 32)]) (st' := []) (w' := (SH, S, T)) rfl ?_
        refine xj_E.b_ne (fun q => ?_) (fun q => ?_)
        · have hd := hd.1 q
          have h := fun v S9 e => h v S9 (Eq.trans e (if_pos q).symm)
          exact xj_E.ret rfl rfl rfl rfl (h _ _ rfl)
        · have hd := hd.2 q
          have h := fun v S9 e => h v S9 (Eq.trans e (if_neg q).symm)
          refine xj_E.adv 6 (pc' := 35) (ls' := [(0, .ref 32)]) (st' := [.int ((S 32 39) - 1), .ref 61]) (w' := (SH, S, T)) rfl ?_
          refine xj_E.iald rfl rfl hd.1 ?_
          have hd := hd.2
          refine xj_E.adv 7 (pc' := 47) (ls' := [(3, .int (S 61 ((S 32 39) - 1).toNatClampNeg)), (0, .ref 32)]) (st' := [.int ((S 32 39) - 1), .ref 62]) (w' := (SH, S, T)) rfl ?_
          refine xj_E.iald rfl rfl hd.1 ?_
          have hd := hd.2
          refine xj_E.adv 7 (pc' := 60) (ls' := [(4, .int (S 62 ((S 32 39) - 1).toNatClampNeg)), (3, .int (S 61 ((S 32 39) - 1).toNatClampNeg)), (0, .ref 32)]) (st' := [.int ((S 32 39) - 1), .ref 63]) (w' := (SH, S, T)) rfl ?_
          refine xj_E.iald rfl rfl hd.1 ?_
          have hd := hd.2
          refine xj_E.adv 1 (pc' := 63) (ls' := [(5, .int (S 63 ((S 32 39) - 1).toNatClampNeg)), (4, .int (S 62 ((S 32 39) - 1).toNatClampNeg)), (3, .int (S 61 ((S 32 39) - 1).toNatClampNeg)), (0, .ref 32)]) (st' := []) (w' := (SH, S, T)) rfl ?_
          refine xj_E.loc [0, 3, 4, 5] xhth rfl (show xj_E (xX L xs) D 88 63 [(0, .ref 32), (3, .int (S 61 ((S 32 39) - 1).toNatClampNeg)), (4, .int (S 62 ((S 32 39) - 1).toNatClampNeg)), (5, .int (S 63 ((S 32 39) - 1).toNatClampNeg))] [] (SH, S, T) P from ?_)
          exact (ih.2) _ _ _ _ _ _ (by omega) hd h
    · intro u3 u4 u5 S D P hD hd h
      obtain ⟨D1, rfl⟩ : ∃ D1, D = D1 + 1 := ⟨D - 1, by omega⟩
      refine xj_E.adv 4 (pc' := (if xj_cmp .ge u5 (S 32 17) = true then 100 else 72)) (ls' := [(0, .ref 32), (3, .int u3), (4, .int u4), (5, .int u5)]) (st' := []) (w' := (SH, S, T)) rfl ?_
      refine xj_E.b_ge (fun q => ?_) (fun q => ?_)
      · have hd := hd.1 q
        have h := fun v S9 e => h v S9 (Eq.trans e (if_pos q).symm)
        refine xj_E.adv 9 (pc' := 114) (ls' := [(0, .ref 32), (3, .int u3), (4, .int u4), (5, .int u5)]) (st' := [.int (u5 + 1), .int ((S 32 39) - 1), .ref 63]) (w' := (SH, S, T)) rfl ?_
        refine xj_E.iast rfl rfl hd.1 ?_
        have hd := hd.2
        refine xj_E.adv 4 (pc' := (if xj_cmp .ge u5 (S 32 17) = true then 146 else 124)) (ls' := [(0, .ref 32), (3, .int u3), (4, .int u4), (5, .int u5)]) (st' := []) (w' := (SH, (xj_set S 63 ((S 32 39) - 1).toNatClampNeg (u5 + 1)), T)) rfl ?_
        refine xj_E.b_ge (fun q => ?_) (fun q => ?_)
        · have hd := hd.1 q
          have h := fun v S9 e => h v S9 (Eq.trans e (if_pos q).symm)
          refine xj_E.adv 9 (pc' := 160) (ls' := [(0, .ref 32), (3, .int u3), (4, .int u4), (5, .int u5)]) (st' := [.int u4, .int u3, .ref 32]) (w' := (SH, (xj_set (xj_set S 63 ((S 32 39) - 1).toNatClampNeg (u5 + 1)) 32 39 ((S 32 39) - 1)), T)) rfl ?_
          refine xj_E.callv (d := D1) (S := SH) rfl rfl rfl rfl rfl (ok_m_again (by omega) hd.1 ?_)
          intro v1 S1 e1
          refine ⟨_, _, rfl, rfl, rfl, rfl, ?_⟩
          have hd := hd.2
          rw [← e1] at hd h
          refine xj_E.adv 1 (pc' := 11) (ls' := [(0, .ref 32), (3, .int u3), (4, .int u4), (5, .int u5)]) (st' := []) (w' := (SH, S1, T)) rfl ?_
          refine xj_E.loc [0] xhth rfl (show xj_E (xX L xs) (D1 + 1) 88 11 [(0, .ref 32)] [] (SH, S1, T) P from ?_)
          exact (ih.1) _ _ _ (by omega) hd h
        · have hd := hd.2 q
          have h := fun v S9 e => h v S9 (Eq.trans e (if_neg q).symm)
          refine xj_E.adv 5 (pc' := (if xj_cmp .ne u4 4 = true then 138 else 133)) (ls' := [(0, .ref 32), (3, .int u3), (4, .int u4), (5, .int u5)]) (st' := [.int u5, .ref 32]) (w' := (SH, (xj_set S 63 ((S 32 39) - 1).toNatClampNeg (u5 + 1)), T)) rfl ?_
          refine xj_E.b_ne (fun q => ?_) (fun q => ?_)
          · have hd := hd.1 q
            have h := fun v S9 e => h v S9 (Eq.trans e (if_pos q).symm)
            refine xj_E.adv 1 (pc' := 140) (ls' := [(0, .ref 32), (3, .int u3), (4, .int u4), (5, .int u5)]) (st' := [.int u4, .int u5, .ref 32]) (w' := (SH, (xj_set S 63 ((S 32 39) - 1).toNatClampNeg (u5 + 1)), T)) rfl ?_
            refine xj_E.callv (d := D1) (S := SH) rfl rfl rfl rfl rfl (ok_m_enter (by omega) hd.1 ?_)
            intro v2 S2 e2
            refine ⟨_, _, rfl, rfl, rfl, rfl, ?_⟩
            have hd := hd.2
            rw [← e2] at hd h
            refine xj_E.adv 2 (pc' := 11) (ls' := [(0, .ref 32), (3, .int u3), (4, .int u4), (5, .int u5)]) (st' := []) (w' := (SH, S2, T)) rfl ?_
            refine xj_E.loc [0] xhth rfl (show xj_E (xX L xs) (D1 + 1) 88 11 [(0, .ref 32)] [] (SH, S2, T) P from ?_)
            exact (ih.1) _ _ _ (by omega) hd h
          · have hd := hd.2 q
            have h := fun v S9 e => h v S9 (Eq.trans e (if_neg q).symm)
            refine xj_E.adv 2 (pc' := 140) (ls' := [(0, .ref 32), (3, .int u3), (4, .int u4), (5, .int u5)]) (st' := [.int 9, .int u5, .ref 32]) (w' := (SH, (xj_set S 63 ((S 32 39) - 1).toNatClampNeg (u5 + 1)), T)) rfl ?_
            refine xj_E.callv (d := D1) (S := SH) rfl rfl rfl rfl rfl (ok_m_enter (by omega) hd.1 ?_)
            intro v3 S3 e3
            refine ⟨_, _, rfl, rfl, rfl, rfl, ?_⟩
            have hd := hd.2
            rw [← e3] at hd h
            refine xj_E.adv 2 (pc' := 11) (ls' := [(0, .ref 32), (3, .int u3), (4, .int u4), (5, .int u5)]) (st' := []) (w' := (SH, S3, T)) rfl ?_
            refine xj_E.loc [0] xhth rfl (show xj_E (xX L xs) (D1 + 1) 88 11 [(0, .ref 32)] [] (SH, S3, T) P from ?_)
            exact (ih.1) _ _ _ (by omega) hd h
      · have hd := hd.2 q
        have h := fun v S9 e => h v S9 (Eq.trans e (if_neg q).symm)
        refine xj_E.adv 3 (pc' := 78) (ls' := [(0, .ref 32), (3, .int u3), (4, .int u4), (5, .int u5)]) (st' := [.int u5, .ref 46]) (w' := (SH, S, T)) rfl ?_
        refine xj_E.iald rfl rfl hd.1 ?_
        have hd := hd.2
        refine xj_E.adv 2 (pc' := (if xj_cmp .ne (S 46 u5.toNatClampNeg) u3 = true then 94 else 83)) (ls' := [(0, .ref 32), (3, .int u3), (4, .int u4), (5, .int u5)]) (st' := []) (w' := (SH, S, T)) rfl ?_
        refine xj_E.b_ne (fun q => ?_) (fun q => ?_)
        · have hd := hd.1 q
          have h := fun v S9 e => h v S9 (Eq.trans e (if_pos q).symm)
          refine xj_E.adv 2 (pc' := 63) (ls' := [(5, .int (u5 + 1)), (0, .ref 32), (3, .int u3), (4, .int u4)]) (st' := []) (w' := (SH, S, T)) rfl ?_
          refine xj_E.loc [0, 3, 4, 5] xhth rfl (show xj_E (xX L xs) (D1 + 1) 88 63 [(0, .ref 32), (3, .int u3), (4, .int u4), (5, .int (u5 + 1))] [] (SH, S, T) P from ?_)
          exact (ih.2) _ _ _ _ _ _ (by omega) hd h
        · have hd := hd.2 q
          have h := fun v S9 e => h v S9 (Eq.trans e (if_neg q).symm)
          refine xj_E.adv 3 (pc' := 88) (ls' := [(0, .ref 32), (3, .int u3), (4, .int u4), (5, .int u5)]) (st' := [.int u4, .int u5, .ref 32]) (w' := (SH, S, T)) rfl ?_
          refine xj_E.calli (d := D1) (S := SH) rfl rfl rfl rfl rfl (xj_E.deep (ok_m_follows (d := 0) hd.1 ?_) (by omega))
          intro v e
          subst e
          refine ⟨_, _, _, rfl, rfl, rfl, rfl, ?_⟩
          have hd := hd.2
          refine xj_E.adv 1 (pc' := (if xj_cmp .ne (r_m_follows S u5 u4) 0 = true then 100 else 94)) (ls' := [(0, .ref 32), (3, .int u3), (4, .int u4), (5, .int u5)]) (st' := []) (w' := (SH, S, T)) rfl ?_
          refine xj_E.b_ne (fun q => ?_) (fun q => ?_)
          · have hd := hd.1 q
            have h := fun v S9 e => h v S9 (Eq.trans e (if_pos q).symm)
            refine xj_E.adv 9 (pc' := 114) (ls' := [(0, .ref 32), (3, .int u3), (4, .int u4), (5, .int u5)]) (st' := [.int (u5 + 1), .int ((S 32 39) - 1), .ref 63]) (w' := (SH, S, T)) rfl ?_
            refine xj_E.iast rfl rfl hd.1 ?_
            have hd := hd.2
            refine xj_E.adv 4 (pc' := (if xj_cmp .ge u5 (S 32 17) = true then 146 else 124)) (ls' := [(0, .ref 32), (3, .int u3), (4, .int u4), (5, .int u5)]) (st' := []) (w' := (SH, (xj_set S 63 ((S 32 39) - 1).toNatClampNeg (u5 + 1)), T)) rfl ?_
            refine xj_E.b_ge (fun q => ?_) (fun q => ?_)
            · have hd := hd.1 q
              have h := fun v S9 e => h v S9 (Eq.trans e (if_pos q).symm)
              refine xj_E.adv 9 (pc' := 160) (ls' := [(0, .ref 32), (3, .int u3), (4, .int u4), (5, .int u5)]) (st' := [.int u4, .int u3, .ref 32]) (w' := (SH, (xj_set (xj_set S 63 ((S 32 39) - 1).toNatClampNeg (u5 + 1)) 32 39 ((S 32 39) - 1)), T)) rfl ?_
              refine xj_E.callv (d := D1) (S := SH) rfl rfl rfl rfl rfl (ok_m_again (by omega) hd.1 ?_)
              intro v4 S4 e4
              refine ⟨_, _, rfl, rfl, rfl, rfl, ?_⟩
              have hd := hd.2
              rw [← e4] at hd h
              refine xj_E.adv 1 (pc' := 11) (ls' := [(0, .ref 32), (3, .int u3), (4, .int u4), (5, .int u5)]) (st' := []) (w' := (SH, S4, T)) rfl ?_
              refine xj_E.loc [0] xhth rfl (show xj_E (xX L xs) (D1 + 1) 88 11 [(0, .ref 32)] [] (SH, S4, T) P from ?_)
              exact (ih.1) _ _ _ (by omega) hd h
            · have hd := hd.2 q
              have h := fun v S9 e => h v S9 (Eq.trans e (if_neg q).symm)
              refine xj_E.adv 5 (pc' := (if xj_cmp .ne u4 4 = true then 138 else 133)) (ls' := [(0, .ref 32), (3, .int u3), (4, .int u4), (5, .int u5)]) (st' := [.int u5, .ref 32]) (w' := (SH, (xj_set S 63 ((S 32 39) - 1).toNatClampNeg (u5 + 1)), T)) rfl ?_
              refine xj_E.b_ne (fun q => ?_) (fun q => ?_)
              · have hd := hd.1 q
                have h := fun v S9 e => h v S9 (Eq.trans e (if_pos q).symm)
                refine xj_E.adv 1 (pc' := 140) (ls' := [(0, .ref 32), (3, .int u3), (4, .int u4), (5, .int u5)]) (st' := [.int u4, .int u5, .ref 32]) (w' := (SH, (xj_set S 63 ((S 32 39) - 1).toNatClampNeg (u5 + 1)), T)) rfl ?_
                refine xj_E.callv (d := D1) (S := SH) rfl rfl rfl rfl rfl (ok_m_enter (by omega) hd.1 ?_)
                intro v5 S5 e5
                refine ⟨_, _, rfl, rfl, rfl, rfl, ?_⟩
                have hd := hd.2
                rw [← e5] at hd h
                refine xj_E.adv 2 (pc' := 11) (ls' := [(0, .ref 32), (3, .int u3), (4, .int u4), (5, .int u5)]) (st' := []) (w' := (SH, S5, T)) rfl ?_
                refine xj_E.loc [0] xhth rfl (show xj_E (xX L xs) (D1 + 1) 88 11 [(0, .ref 32)] [] (SH, S5, T) P from ?_)
                exact (ih.1) _ _ _ (by omega) hd h
              · have hd := hd.2 q
                have h := fun v S9 e => h v S9 (Eq.trans e (if_neg q).symm)
                refine xj_E.adv 2 (pc' := 140) (ls' := [(0, .ref 32), (3, .int u3), (4, .int u4), (5, .int u5)]) (st' := [.int 9, .int u5, .ref 32]) (w' := (SH, (xj_set S 63 ((S 32 39) - 1).toNatClampNeg (u5 + 1)), T)) rfl ?_
                refine xj_E.callv (d := D1) (S := SH) rfl rfl rfl rfl rfl (ok_m_enter (by omega) hd.1 ?_)
                intro v6 S6 e6
                refine ⟨_, _, rfl, rfl, rfl, rfl, ?_⟩
                have hd := hd.2
                rw [← e6] at hd h
                refine xj_E.adv 2 (pc' := 11) (ls' := [(0, .ref 32), (3, .int u3), (4, .int u4), (5, .int u5)]) (st' := []) (w' := (SH, S6, T)) rfl ?_
                refine xj_E.loc [0] xhth rfl (show xj_E (xX L xs) (D1 + 1) 88 11 [(0, .ref 32)] [] (SH, S6, T) P from ?_)
                exact (ih.1) _ _ _ (by omega) hd h
          · have hd := hd.2 q
            have h := fun v S9 e => h v S9 (Eq.trans e (if_neg q).symm)
            refine xj_E.adv 2 (pc' := 63) (ls' := [(5, .int (u5 + 1)), (0, .ref 32), (3, .int u3), (4, .int u4)]) (st' := []) (w' := (SH, S, T)) rfl ?_
            refine xj_E.loc [0, 3, 4, 5] xhth rfl (show xj_E (xX L xs) (D1 + 1) 88 63 [(0, .ref 32), (3, .int u3), (4, .int u4), (5, .int (u5 + 1))] [] (SH, S, T) P from ?_)
            exact (ih.2) _ _ _ _ _ _ (by omega) hd h
def f_m_make (a : Int32) (b : Int32) (S : (Nat → Nat → Int32)) : Int32 × (Nat → Nat → Int32) := match f_m_enter a b (xj_set S 32 39 0) with | (_, S1) => (fk_m_make 200).1 S1
def d_m_make (a : Int32) (b : Int32) (S : (Nat → Nat → Int32)) : Prop := d_m_enter a b (xj_set S 32 39 0) ∧ (match f_m_enter a b (xj_set S 32 39 0) with | (_, S1) => (dk_m_make 200).1 S1)
seal f_m_make d_m_make
set_option maxHeartbeats 4000000 in
set_option maxRecDepth 100000 in
theorem ok_m_make {L : Nat} {xs : Nat → Int32} {T : Nat → Nat → Int64} {D : Nat} {S : (Nat → Nat → Int32)} {P : (Option Value ⊕ Nat) → xj_W → Nat → Nat → Prop} {a b : Int32} (hD : 605 ≤ D) (hd : d_m_make a b S) (h : ∀ v S9, (v, S9) = f_m_make a b S → P (.inl none) (SH, S9, T) 0 0) : xj_E (xX L xs) D 88 0 [(0, .ref 32), (1, .int a), (2, .int b)] [] (SH, S, T) P := by
  unfold d_m_make at hd
  unfold f_m_make at h
  obtain ⟨D1, rfl⟩ : ∃ D1, D = D1 + 1 := ⟨D - 1, by omega⟩
  refine xj_E.adv 6 (pc' := 8) (ls' := [(0, .ref 32), (1, .int a), (2, .int b)]) (st' := [.int b, .int a, .ref 32]) (w' := (SH, (xj_set S 32 39 0), T)) rfl ?_
  refine xj_E.callv (d := D1) (S := SH) rfl rfl rfl rfl rfl (ok_m_enter (by omega) hd.1 ?_)
  intro v1 S1 e1
  refine ⟨_, _, rfl, rfl, rfl, rfl, ?_⟩
  have hd := hd.2
  rw [← e1] at hd h
  refine xj_E.loc [0] xhth rfl (show xj_E (xX L xs) (D1 + 1) 88 11 [(0, .ref 32)] [] (SH, S1, T) P from ?_)
  exact ((okk_m_make 200).1) _ _ _ (by omega) hd h
def f_m_letIn (a : Int32) (S : (Nat → Nat → Int32)) : Int32 × (Nat → Nat → Int32) := if (r_m_hasFlag S a 1) = 0 then (if (S 32 38) = 0 then (if (r_m_kindOf S a) ≠ 2 then (if (r_m_hasFlag S a 4) = 0 then (match f_m_make a 2 S with | (_, S1) => (0, S1)) else (match f_m_make a 1 S with | (_, S2) => (0, S2))) else (match f_m_make a 3 S with | (_, S3) => (0, S3))) else ((0, S))) else (if (r_m_hasEntry S a) = 0 then (if (S 32 38) = 0 then (if (r_m_kindOf S a) ≠ 2 then (if (r_m_hasFlag S a 4) = 0 then (match f_m_make a 2 S with | (_, S4) => (0, S4)) else (match f_m_make a 1 S with | (_, S5) => (0, S5))) else (match f_m_make a 3 S with | (_, S6) => (0, S6))) else ((0, S))) else (match f_m_create (S 45 a.toNatClampNeg) (S 46 a.toNatClampNeg) S with | (_, S7) => if (S7 32 38) = 0 then (if (r_m_kindOf S7 a) ≠ 2 then (if (r_m_hasFlag S7 a 4) = 0 then (match f_m_make a 2 S7 with | (_, S8) => (0, S8)) else (match f_m_make a 1 S7 with | (_, S9) => (0, S9))) else (match f_m_make a 3 S7 with | (_, S10) => (0, S10))) else ((0, S7))))
def d_m_letIn (a : Int32) (S : (Nat → Nat → Int32)) : Prop := d_m_hasFlag S a 1 ∧ (((r_m_hasFlag S a 1) = 0 → (((S 32 38) = 0 → (d_m_kindOf S a ∧ (((r_m_kindOf S a) ≠ 2 → (d_m_hasFlag S a 4 ∧ (((r_m_hasFlag S a 4) = 0 → (d_m_make a 2 S ∧ (match f_m_make a 2 S with | (_, S1) => True))) ∧ (¬ ((r_m_hasFlag S a 4) = 0) → (d_m_make a 1 S ∧ (match f_m_make a 1 S with | (_, S2) => True)))))) ∧ (¬ ((r_m_kindOf S a) ≠ 2) → (d_m_make a 3 S ∧ (match f_m_make a 3 S with | (_, S3) => True)))))) ∧ (¬ ((S 32 38) = 0) → (True)))) ∧ (¬ ((r_m_hasFlag S a 1) = 0) → (d_m_hasEntry S a ∧ (((r_m_hasEntry S a) = 0 → (((S 32 38) = 0 → (d_m_kindOf S a ∧ (((r_m_kindOf S a) ≠ 2 → (d_m_hasFlag S a 4 ∧ (((r_m_hasFlag S a 4) = 0 → (d_m_make a 2 S ∧ (match f_m_make a 2 S with | (_, S4) => True))) ∧ (¬ ((r_m_hasFlag S a 4) = 0) → (d_m_make a 1 S ∧ (match f_m_make a 1 S with | (_, S5) => True)))))) ∧ (¬ ((r_m_kindOf S a) ≠ 2) → (d_m_make a 3 S ∧ (match f_m_make a 3 S with | (_, S6) => True)))))) ∧ (¬ ((S 32 38) = 0) → (True)))) ∧ (¬ ((r_m_hasEntry S a) = 0) → (vp_in a 40 ∧ (vp_in a 40 ∧ (d_m_create (S 45 a.toNatClampNeg) (S 46 a.toNatClampNeg) S ∧ (match f_m_create (S 45 a.toNatClampNeg) (S 46 a.toNatClampNeg) S with | (_, S7) => ((S7 32 38) = 0 → (d_m_kindOf S7 a ∧ (((r_m_kindOf S7 a) ≠ 2 → (d_m_hasFlag S7 a 4 ∧ (((r_m_hasFlag S7 a 4) = 0 → (d_m_make a 2 S7 ∧ (match f_m_make a 2 S7 with | (_, S8) => True))) ∧ (¬ ((r_m_hasFlag S7 a 4) = 0) → (d_m_make a 1 S7 ∧ (match f_m_make a 1 S7 with | (_, S9) => True)))))) ∧ (¬ ((r_m_kindOf S7 a) ≠ 2) → (d_m_make a 3 S7 ∧ (match f_m_make a 3 S7 with | (_, S10) => True)))))) ∧ (¬ ((S7 32 38) = 0) → (True)))))))))))
seal f_m_letIn d_m_letIn
set_option maxHeartbeats 4000000 in
set_option maxRecDepth 100000 in
theorem ok_m_letIn {L : Nat} {xs : Nat → Int32} {T : Nat → Nat → Int64} {D : Nat} {S : (Nat → Nat → Int32)} {P : (Option Value ⊕ Nat) → xj_W → Nat → Nat → Prop} {a : Int32} (hD : 606 ≤ D) (hd : d_m_letIn a S) (h : ∀ v S9, (v, S9) = f_m_letIn a S → P (.inl none) (SH, S9, T) 0 0) : xj_E (xX L xs) D 96 0 [(0, .ref 32), (1, .int a)] [] (SH, S, T) P := by
  unfold d_m_letIn at hd
  unfold f_m_letIn at h
  obtain ⟨D1, rfl⟩ : ∃ D1, D = D1 + 1 := ⟨D - 1, by omega⟩
  refine xj_E.adv 3 (pc' := 3) (ls' := [(0, .ref 32), (1, .int a)]) (st' := [.int 1, .int a, .ref 32]) (w' := (SH, S, T)) rfl ?_
  refine xj_E.calli (d := D1) (S := SH) rfl rfl rfl rfl rfl (xj_E.deep (ok_m_hasFlag (d := 0) hd.1 ?_) (by omega))
  intro v e
  subst e
  refine ⟨_, _, _, rfl, rfl, rfl, rfl, ?_⟩
  have hd := hd.2
  refine xj_E.adv 1 (pc' := (if xj_cmp .eq (r_m_hasFlag S a 1) 0 = true then 33 else 9)) (ls' := [(0, .ref 32), (1, .int a)]) (st' := []) (w' := (SH, S, T)) rfl ?_
  refine xj_E.b_eq (fun q => ?_) (fun q => ?_)
  · have hd := hd.1 q
    have h := fun v S9 e => h v S9 (Eq.trans e (if_pos q).symm)
    refine xj_E.adv 3 (pc' := (if xj_cmp .eq (S 32 38) 0 = true then 41 else 40)) (ls' := [(0, .ref 32), (1, .int a)]) (st' := []) (w' := (SH, S, T)) rfl ?_
    refine xj_E.b_eq (fun q => ?_) (fun q => ?_)
    · have hd := hd.1 q
      have h := fun v S9 e => h v S9 (Eq.trans e (if_pos q).symm)
      refine xj_E.adv 2 (pc' := 43) (ls' := [(0, .ref 32), (1, .int a)]) (st' := [.int a, .ref 32]) (w' := (SH, S, T)) rfl ?_
      refine xj_E.calli (d := D1) (S := SH) rfl rfl rfl rfl rfl (xj_E.deep (ok_m_kindOf (d := 0) hd.1 ?_) (by omega))
      intro v e
      subst e
      refine ⟨_, _, _, rfl, rfl, rfl, rfl, ?_⟩
      have hd := hd.2
      refine xj_E.adv 2 (pc' := (if xj_cmp .ne (r_m_kindOf S a) 2 = true then 59 else 50)) (ls' := [(0, .ref 32), (1, .int a)]) (st' := []) (w' := (SH, S, T)) rfl ?_
      refine xj_E.b_ne (fun q => ?_) (fun q => ?_)
      · have hd := hd.1 q
        have h := fun v S9 e => h v S9 (Eq.trans e (if_pos q).symm)
        refine xj_E.adv 5 (pc' := 64) (ls' := [(0, .ref 32), (1, .int a)]) (st' := [.int 4, .int a, .ref 32, .int a, .ref 32]) (w' := (SH, S, T)) rfl ?_
        refine xj_E.calli (d := D1) (S := SH) rfl rfl rfl rfl rfl (xj_E.deep (ok_m_hasFlag (d := 0) hd.1 ?_) (by omega))
        intro v e
        subst e
        refine ⟨_, _, _, rfl, rfl, rfl, rfl, ?_⟩
        have hd := hd.2
        refine xj_E.adv 1 (pc' := (if xj_cmp .eq (r_m_hasFlag S a 4) 0 = true then 74 else 70)) (ls' := [(0, .ref 32), (1, .int a)]) (st' := [.int a, .ref 32]) (w' := (SH, S, T)) rfl ?_
        refine xj_E.b_eq (fun q => ?_) (fun q => ?_)
        · have hd := hd.1 q
          have h := fun v S9 e => h v S9 (Eq.trans e (if_pos q).symm)
          refine xj_E.adv 1 (pc' := 75) (ls' := [(0, .ref 32), (1, .int a)]) (st' := [.int 2, .int a, .ref 32]) (w' := (SH, S, T)) rfl ?_
          refine xj_E.callv (d := D1) (S := SH) rfl rfl rfl rfl rfl (ok_m_make (by omega) hd.1 ?_)
          intro v1 S1 e1
          refine ⟨_, _, rfl, rfl, rfl, rfl, ?_⟩
          have hd := hd.2
          rw [← e1] at hd h
          exact xj_E.ret rfl rfl rfl rfl (h _ _ rfl)
        · have hd := hd.2 q
          have h := fun v S9 e => h v S9 (Eq.trans e (if_neg q).symm)
          refine xj_E.adv 2 (pc' := 75) (ls' := [(0, .ref 32), (1, .int a)]) (st' := [.int 1, .int a, .ref 32]) (w' := (SH, S, T)) rfl ?_
          refine xj_E.callv (d := D1) (S := SH) rfl rfl rfl rfl rfl (ok_m_make (by omega) hd.1 ?_)
          intro v2 S2 e2
          refine ⟨_, _, rfl, rfl, rfl, rfl, ?_⟩
          have hd := hd.2
          rw [← e2] at hd h
          exact xj_E.ret rfl rfl rfl rfl (h _ _ rfl)
      · have hd := hd.2 q
        have h := fun v S9 e => h v S9 (Eq.trans e (if_neg q).symm)
        refine xj_E.adv 3 (pc' := 53) (ls' := [(0, .ref 32), (1, .int a)]) (st' := [.int 3, .int a, .ref 32]) (w' := (SH, S, T)) rfl ?_
        refine xj_E.callv (d := D1) (S := SH) rfl rfl rfl rfl rfl (ok_m_make (by omega) hd.1 ?_)
        intro v3 S3 e3
        refine ⟨_, _, rfl, rfl, rfl, rfl, ?_⟩
        have hd := hd.2
        rw [← e3] at hd h
        refine xj_E.adv 1 (pc' := 78) (ls' := [(0, .ref 32), (1, .int a)]) (st' := []) (w' := (SH, S3, T)) rfl ?_
        exact xj_E.ret rfl rfl rfl rfl (h _ _ rfl)
    · have hd := hd.2 q
      have h := fun v S9 e => h v S9 (Eq.trans e (if_neg q).symm)
      exact xj_E.ret rfl rfl rfl rfl (h _ _ rfl)
  · have hd := hd.2 q
    have h := fun v S9 e => h v S9 (Eq.trans e (if_neg q).symm)
    refine xj_E.adv 2 (pc' := 11) (ls' := [(0, .ref 32), (1, .int a)]) (st' := [.int a, .ref 32]) (w' := (SH, S, T)) rfl ?_
    refine xj_E.calli (d := D1) (S := SH) rfl rfl rfl rfl rfl (xj_E.deep (ok_m_hasEntry (d := 0) hd.1 ?_) (by omega))
    intro v e
    subst e
    refine ⟨_, _, _, rfl, rfl, rfl, rfl, ?_⟩
    have hd := hd.2
    refine xj_E.adv 1 (pc' := (if xj_cmp .eq (r_m_hasEntry S a) 0 = true then 33 else 17)) (ls' := [(0, .ref 32), (1, .int a)]) (st' := []) (w' := (SH, S, T)) rfl ?_
    refine xj_E.b_eq (fun q => ?_) (fun q => ?_)
    · have hd := hd.1 q
      have h := fun v S9 e => h v S9 (Eq.trans e (if_pos q).symm)
      refine xj_E.adv 3 (pc' := (if xj_cmp .eq (S 32 38) 0 = true then 41 else 40)) (ls' := [(0, .ref 32), (1, .int a)]) (st' := []) (w' := (SH, S, T)) rfl ?_
      refine xj_E.b_eq (fun q => ?_) (fun q => ?_)
      · have hd := hd.1 q
        have h := fun v S9 e => h v S9 (Eq.trans e (if_pos q).symm)
        refine xj_E.adv 2 (pc' := 43) (ls' := [(0, .ref 32), (1, .int a)]) (st' := [.int a, .ref 32]) (w' := (SH, S, T)) rfl ?_
        refine xj_E.calli (d := D1) (S := SH) rfl rfl rfl rfl rfl (xj_E.deep (ok_m_kindOf (d := 0) hd.1 ?_) (by omega))
        intro v e
        subst e
        refine ⟨_, _, _, rfl, rfl, rfl, rfl, ?_⟩
        have hd := hd.2
        refine xj_E.adv 2 (pc' := (if xj_cmp .ne (r_m_kindOf S a) 2 = true then 59 else 50)) (ls' := [(0, .ref 32), (1, .int a)]) (st' := []) (w' := (SH, S, T)) rfl ?_
        refine xj_E.b_ne (fun q => ?_) (fun q => ?_)
        · have hd := hd.1 q
          have h := fun v S9 e => h v S9 (Eq.trans e (if_pos q).symm)
          refine xj_E.adv 5 (pc' := 64) (ls' := [(0, .ref 32), (1, .int a)]) (st' := [.int 4, .int a, .ref 32, .int a, .ref 32]) (w' := (SH, S, T)) rfl ?_
          refine xj_E.calli (d := D1) (S := SH) rfl rfl rfl rfl rfl (xj_E.deep (ok_m_hasFlag (d := 0) hd.1 ?_) (by omega))
          intro v e
          subst e
          refine ⟨_, _, _, rfl, rfl, rfl, rfl, ?_⟩
          have hd := hd.2
          refine xj_E.adv 1 (pc' := (if xj_cmp .eq (r_m_hasFlag S a 4) 0 = true then 74 else 70)) (ls' := [(0, .ref 32), (1, .int a)]) (st' := [.int a, .ref 32]) (w' := (SH, S, T)) rfl ?_
          refine xj_E.b_eq (fun q => ?_) (fun q => ?_)
          · have hd := hd.1 q
            have h := fun v S9 e => h v S9 (Eq.trans e (if_pos q).symm)
            refine xj_E.adv 1 (pc' := 75) (ls' := [(0, .ref 32), (1, .int a)]) (st' := [.int 2, .int a, .ref 32]) (w' := (SH, S, T)) rfl ?_
            refine xj_E.callv (d := D1) (S := SH) rfl rfl rfl rfl rfl (ok_m_make (by omega) hd.1 ?_)
            intro v4 S4 e4
            refine ⟨_, _, rfl, rfl, rfl, rfl, ?_⟩
            have hd := hd.2
            rw [← e4] at hd h
            exact xj_E.ret rfl rfl rfl rfl (h _ _ rfl)
          · have hd := hd.2 q
            have h := fun v S9 e => h v S9 (Eq.trans e (if_neg q).symm)
            refine xj_E.adv 2 (pc' := 75) (ls' := [(0, .ref 32), (1, .int a)]) (st' := [.int 1, .int a, .ref 32]) (w' := (SH, S, T)) rfl ?_
            refine xj_E.callv (d := D1) (S := SH) rfl rfl rfl rfl rfl (ok_m_make (by omega) hd.1 ?_)
            intro v5 S5 e5
            refine ⟨_, _, rfl, rfl, rfl, rfl, ?_⟩
            have hd := hd.2
            rw [← e5] at hd h
            exact xj_E.ret rfl rfl rfl rfl (h _ _ rfl)
        · have hd := hd.2 q
          have h := fun v S9 e => h v S9 (Eq.trans e (if_neg q).symm)
          refine xj_E.adv 3 (pc' := 53) (ls' := [(0, .ref 32), (1, .int a)]) (st' := [.int 3, .int a, .ref 32]) (w' := (SH, S, T)) rfl ?_
          refine xj_E.callv (d := D1) (S := SH) rfl rfl rfl rfl rfl (ok_m_make (by omega) hd.1 ?_)
          intro v6 S6 e6
          refine ⟨_, _, rfl, rfl, rfl, rfl, ?_⟩
          have hd := hd.2
          rw [← e6] at hd h
          refine xj_E.adv 1 (pc' := 78) (ls' := [(0, .ref 32), (1, .int a)]) (st' := []) (w' := (SH, S6, T)) rfl ?_
          exact xj_E.ret rfl rfl rfl rfl (h _ _ rfl)
      · have hd := hd.2 q
        have h := fun v S9 e => h v S9 (Eq.trans e (if_neg q).symm)
        exact xj_E.ret rfl rfl rfl rfl (h _ _ rfl)
    · have hd := hd.2 q
      have h := fun v S9 e => h v S9 (Eq.trans e (if_neg q).symm)
      refine xj_E.adv 4 (pc' := 23) (ls' := [(0, .ref 32), (1, .int a)]) (st' := [.int a, .ref 45, .ref 32]) (w' := (SH, S, T)) rfl ?_
      refine xj_E.iald rfl rfl hd.1 ?_
      have hd := hd.2
      refine xj_E.adv 3 (pc' := 29) (ls' := [(0, .ref 32), (1, .int a)]) (st' := [.int a, .ref 46, .int (S 45 a.toNatClampNeg), .ref 32]) (w' := (SH, S, T)) rfl ?_
      refine xj_E.iald rfl rfl hd.1 ?_
      have hd := hd.2
      refine xj_E.callv (d := D1) (S := SH) rfl rfl rfl rfl rfl (ok_m_create (by omega) hd.1 ?_)
      intro v7 S7 e7
      refine ⟨_, _, rfl, rfl, rfl, rfl, ?_⟩
      have hd := hd.2
      rw [← e7] at hd h
      refine xj_E.adv 3 (pc' := (if xj_cmp .eq (S7 32 38) 0 = true then 41 else 40)) (ls' := [(0, .ref 32), (1, .int a)]) (st' := []) (w' := (SH, S7, T)) rfl ?_
      refine xj_E.b_eq (fun q => ?_) (fun q => ?_)
      · have hd := hd.1 q
        have h := fun v S9 e => h v S9 (Eq.trans e (if_pos q).symm)
        refine xj_E.adv 2 (pc' := 43) (ls' := [(0, .ref 32), (1, .int a)]) (st' := [.int a, .ref 32]) (w' := (SH, S7, T)) rfl ?_
        refine xj_E.calli (d := D1) (S := SH) rfl rfl rfl rfl rfl (xj_E.deep (ok_m_kindOf (d := 0) hd.1 ?_) (by omega))
        intro v e
        subst e
        refine ⟨_, _, _, rfl, rfl, rfl, rfl, ?_⟩
        have hd := hd.2
        refine xj_E.adv 2 (pc' := (if xj_cmp .ne (r_m_kindOf S7 a) 2 = true then 59 else 50)) (ls' := [(0, .ref 32), (1, .int a)]) (st' := []) (w' := (SH, S7, T)) rfl ?_
        refine xj_E.b_ne (fun q => ?_) (fun q => ?_)
        · have hd := hd.1 q
          have h := fun v S9 e => h v S9 (Eq.trans e (if_pos q).symm)
          refine xj_E.adv 5 (pc' := 64) (ls' := [(0, .ref 32), (1, .int a)]) (st' := [.int 4, .int a, .ref 32, .int a, .ref 32]) (w' := (SH, S7, T)) rfl ?_
          refine xj_E.calli (d := D1) (S := SH) rfl rfl rfl rfl rfl (xj_E.deep (ok_m_hasFlag (d := 0) hd.1 ?_) (by omega))
          intro v e
          subst e
          refine ⟨_, _, _, rfl, rfl, rfl, rfl, ?_⟩
          have hd := hd.2
          refine xj_E.adv 1 (pc' := (if xj_cmp .eq (r_m_hasFlag S7 a 4) 0 = true then 74 else 70)) (ls' := [(0, .ref 32), (1, .int a)]) (st' := [.int a, .ref 32]) (w' := (SH, S7, T)) rfl ?_
          refine xj_E.b_eq (fun q => ?_) (fun q => ?_)
          · have hd := hd.1 q
            have h := fun v S9 e => h v S9 (Eq.trans e (if_pos q).symm)
            refine xj_E.adv 1 (pc' := 75) (ls' := [(0, .ref 32), (1, .int a)]) (st' := [.int 2, .int a, .ref 32]) (w' := (SH, S7, T)) rfl ?_
            refine xj_E.callv (d := D1) (S := SH) rfl rfl rfl rfl rfl (ok_m_make (by omega) hd.1 ?_)
            intro v8 S8 e8
            refine ⟨_, _, rfl, rfl, rfl, rfl, ?_⟩
            have hd := hd.2
            rw [← e8] at hd h
            exact xj_E.ret rfl rfl rfl rfl (h _ _ rfl)
          · have hd := hd.2 q
            have h := fun v S9 e => h v S9 (Eq.trans e (if_neg q).symm)
            refine xj_E.adv 2 (pc' := 75) (ls' := [(0, .ref 32), (1, .int a)]) (st' := [.int 1, .int a, .ref 32]) (w' := (SH, S7, T)) rfl ?_
            refine xj_E.callv (d := D1) (S := SH) rfl rfl rfl rfl rfl (ok_m_make (by omega) hd.1 ?_)
            intro v9 S9 e9
            refine ⟨_, _, rfl, rfl, rfl, rfl, ?_⟩
            have hd := hd.2
            rw [← e9] at hd h
            exact xj_E.ret rfl rfl rfl rfl (h _ _ rfl)
        · have hd := hd.2 q
          have h := fun v S9 e => h v S9 (Eq.trans e (if_neg q).symm)
          refine xj_E.adv 3 (pc' := 53) (ls' := [(0, .ref 32), (1, .int a)]) (st' := [.int 3, .int a, .ref 32]) (w' := (SH, S7, T)) rfl ?_
          refine xj_E.callv (d := D1) (S := SH) rfl rfl rfl rfl rfl (ok_m_make (by omega) hd.1 ?_)
          intro v10 S10 e10
          refine ⟨_, _, rfl, rfl, rfl, rfl, ?_⟩
          have hd := hd.2
          rw [← e10] at hd h
          refine xj_E.adv 1 (pc' := 78) (ls' := [(0, .ref 32), (1, .int a)]) (st' := []) (w' := (SH, S10, T)) rfl ?_
          exact xj_E.ret rfl rfl rfl rfl (h _ _ rfl)
      · have hd := hd.2 q
        have h := fun v S9 e => h v S9 (Eq.trans e (if_neg q).symm)
        exact xj_E.ret rfl rfl rfl rfl (h _ _ rfl)
def fk_m_workOff : Nat → (Int32 → (Nat → Nat → Int32) → (Int32 × (Nat → Nat → Int32)))
  | 0 => (fun _ S => (0, S))
  | n + 1 => (fun u1 S => if u1 = 0 then ((0, S)) else (if (S 32 38) ≠ 0 then ((0, S)) else (if (r_m_toExit S) < 0 then (if (r_m_toLetIn S) < 0 then (if (r_m_toComplete S) < 0 then (fk_m_workOff n 0 S) else (match f_m_make (r_m_toComplete S) 4 S with | (_, S1) => fk_m_workOff n 1 S1)) else (match f_m_letIn (r_m_toLetIn S) S with | (_, S2) => fk_m_workOff n u1 S2)) else (match f_m_make (r_m_toExit S) 9 S with | (_, S3) => fk_m_workOff n u1 S3))))
def dk_m_workOff : Nat → (Int32 → (Nat → Nat → Int32) → Prop)
  | 0 => (fun _ S => False)
  | n + 1 => (fun u1 S => (u1 = 0 → (True)) ∧ (¬ (u1 = 0) → (((S 32 38) ≠ 0 → (True)) ∧ (¬ ((S 32 38) ≠ 0) → (d_m_toExit S ∧ (((r_m_toExit S) < 0 → (d_m_toLetIn S ∧ (((r_m_toLetIn S) < 0 → (d_m_toComplete S ∧ (((r_m_toComplete S) < 0 → (dk_m_workOff n 0 S)) ∧ (¬ ((r_m_toComplete S) < 0) → (d_m_make (r_m_toComplete S) 4 S ∧ (match f_m_make (r_m_toComplete S) 4 S with | (_, S1) => dk_m_workOff n 1 S1)))))) ∧ (¬ ((r_m_toLetIn S) < 0) → (d_m_letIn (r_m_toLetIn S) S ∧ (match f_m_letIn (r_m_toLetIn S) S with | (_, S2) => dk_m_workOff n u1 S2)))))) ∧ (¬ ((r_m_toExit S) < 0) → (d_m_make (r_m_toExit S) 9 S ∧ (match f_m_make (r_m_toExit S) 9 S with | (_, S3) => dk_m_workOff n u1 S3)))))))))
set_option maxHeartbeats 4000000 in
set_option maxRecDepth 100000 in
theorem okk_m_workOff {L : Nat} {xs : Nat → Int32} {T : Nat → Nat → Int64} (n : Nat) : (∀ (u1 : Int32) S D (P : (Option Value ⊕ Nat) → xj_W → Nat → Nat → Prop), 607 + n ≤ D → dk_m_workOff n u1 S → (∀ v S9, (v, S9) = fk_m_workOff n u1 S → P (.inl none) (SH, S9, T) 0 0) → xj_E (xX L xs) D 97 2 [(0, .ref 32), (1, .int u1)] [] (SH, S, T) P) := by
  induction n with
  | zero => exact fun _ _ _ _ _ hd _ => hd.elim
  | succ n ih =>
    refine ?_
    · intro u1 S D P hD hd h
      obtain ⟨D1, rfl⟩ : ∃ D1, D = D1 + 1 := ⟨D - 1, by omega⟩
      refine xj_E.adv 2 (pc' := (if xj_cmp .eq u1 0 = true then 77 else 6)) (ls' := [(0, .ref 32), (1, .int u1)]) (st' := []) (w' := (SH, S, T)) rfl ?_
      refine xj_E.b_eq (fun q => ?_) (fun q => ?_)
      · have hd := hd.1 q
        have h := fun v S9 e => h v S9 (Eq.trans e (if_pos q).symm)
        exact xj_E.ret rfl rfl rfl rfl (h _ _ rfl)
      · have hd := hd.2 q
        have h := fun v S9 e => h v S9 (Eq.trans e (if_neg q).symm)
        refine xj_E.adv 3 (pc' := (if xj_cmp .ne (S 32 38) 0 = true then 77 else 13)) (ls' := [(0, .ref 32), (1, .int u1)]) (st' := []) (w' := (SH, S, T)) rfl ?_
        refine xj_E.b_ne (fun q => ?_) (fun q => ?_)
        · have hd := hd.1 q
          have h := fun v S9 e => h v S9 (Eq.trans e (if_pos q).symm)
          exact xj_E.ret rfl rfl rfl rfl (h _ _ rfl)
        · have hd := hd.2 q
          have h := fun v S9 e => h v S9 (Eq.trans e (if_neg q).symm)
          refine xj_E.adv 1 (pc' := 14) (ls' := [(0, .ref 32), (1, .int u1)]) (st' := [.ref 32]) (w' := (SH, S, T)) rfl ?_
          refine xj_E.calli (d := D1) (S := SH) rfl rfl rfl rfl rfl (xj_E.deep (ok_m_toExit (d := 0) hd.1 ?_) (by omega))
          intro v e
          subst e
          refine ⟨_, _, _, rfl, rfl, rfl, rfl, ?_⟩
          have hd := hd.2
          refine xj_E.adv 3 (pc' := (if xj_cmp .lt (r_m_toExit S) 0 = true then 32 else 22)) (ls' := [(2, .int (r_m_toExit S)), (0, .ref 32), (1, .int u1)]) (st' := []) (w' := (SH, S, T)) rfl ?_
          refine xj_E.b_lt (fun q => ?_) (fun q => ?_)
          · have hd := hd.1 q
            have h := fun v S9 e => h v S9 (Eq.trans e (if_pos q).symm)
            refine xj_E.adv 1 (pc' := 33) (ls' := [(2, .int (r_m_toExit S)), (0, .ref 32), (1, .int u1)]) (st' := [.ref 32]) (w' := (SH, S, T)) rfl ?_
            refine xj_E.calli (d := D1) (S := SH) rfl rfl rfl rfl rfl (xj_E.deep (ok_m_toLetIn (d := 0) hd.1 ?_) (by omega))
            intro v e
            subst e
            refine ⟨_, _, _, rfl, rfl, rfl, rfl, ?_⟩
            have hd := hd.2
            refine xj_E.adv 3 (pc' := (if xj_cmp .lt (r_m_toLetIn S) 0 = true then 49 else 41)) (ls' := [(2, .int (r_m_toLetIn S)), (0, .ref 32), (1, .int u1)]) (st' := []) (w' := (SH, S, T)) rfl ?_
            refine xj_E.b_lt (fun q => ?_) (fun q => ?_)
            · have hd := hd.1 q
              have h := fun v S9 e => h v S9 (Eq.trans e (if_pos q).symm)
              refine xj_E.adv 1 (pc' := 50) (ls' := [(2, .int (r_m_toLetIn S)), (0, .ref 32), (1, .int u1)]) (st' := [.ref 32]) (w' := (SH, S, T)) rfl ?_
              refine xj_E.calli (d := D1) (S := SH) rfl rfl rfl rfl rfl (xj_E.deep (ok_m_toComplete (d := 0) hd.1 ?_) (by omega))
              intro v e
              subst e
              refine ⟨_, _, _, rfl, rfl, rfl, rfl, ?_⟩
              have hd := hd.2
              refine xj_E.adv 3 (pc' := (if xj_cmp .lt (r_m_toComplete S) 0 = true then 62 else 58)) (ls' := [(2, .int (r_m_toComplete S)), (0, .ref 32), (1, .int u1)]) (st' := []) (w' := (SH, S, T)) rfl ?_
              refine xj_E.b_lt (fun q => ?_) (fun q => ?_)
              · have hd := hd.1 q
                have h := fun v S9 e => h v S9 (Eq.trans e (if_pos q).symm)
                refine xj_E.adv 5 (pc' := 2) (ls' := [(1, .int 0), (2, .int (r_m_toComplete S)), (0, .ref 32)]) (st' := []) (w' := (SH, S, T)) rfl ?_
                refine xj_E.loc [0, 1] xhth rfl (show xj_E (xX L xs) (D1 + 1) 97 2 [(0, .ref 32), (1, .int 0)] [] (SH, S, T) P from ?_)
                exact (ih) _ _ _ _ (by omega) hd h
              · have hd := hd.2 q
                have h := fun v S9 e => h v S9 (Eq.trans e (if_neg q).symm)
                refine xj_E.adv 8 (pc' := 71) (ls' := [(1, .int 1), (2, .int (r_m_toComplete S)), (0, .ref 32)]) (st' := [.int 4, .int (r_m_toComplete S), .ref 32]) (w' := (SH, S, T)) rfl ?_
                refine xj_E.callv (d := D1) (S := SH) rfl rfl rfl rfl rfl (ok_m_make (by omega) hd.1 ?_)
                intro v1 S1 e1
                refine ⟨_, _, rfl, rfl, rfl, rfl, ?_⟩
                have hd := hd.2
                rw [← e1] at hd h
                refine xj_E.adv 1 (pc' := 2) (ls' := [(1, .int 1), (2, .int (r_m_toComplete S)), (0, .ref 32)]) (st' := []) (w' := (SH, S1, T)) rfl ?_
                refine xj_E.loc [0, 1] xhth rfl (show xj_E (xX L xs) (D1 + 1) 97 2 [(0, .ref 32), (1, .int 1)] [] (SH, S1, T) P from ?_)
                exact (ih) _ _ _ _ (by omega) hd h
            · have hd := hd.2 q
              have h := fun v S9 e => h v S9 (Eq.trans e (if_neg q).symm)
              refine xj_E.adv 2 (pc' := 43) (ls' := [(2, .int (r_m_toLetIn S)), (0, .ref 32), (1, .int u1)]) (st' := [.int (r_m_toLetIn S), .ref 32]) (w' := (SH, S, T)) rfl ?_
              refine xj_E.callv (d := D1) (S := SH) rfl rfl rfl rfl rfl (ok_m_letIn (by omega) hd.1 ?_)
              intro v2 S2 e2
              refine ⟨_, _, rfl, rfl, rfl, rfl, ?_⟩
              have hd := hd.2
              rw [← e2] at hd h
              refine xj_E.adv 1 (pc' := 2) (ls' := [(2, .int (r_m_toLetIn S)), (0, .ref 32), (1, .int u1)]) (st' := []) (w' := (SH, S2, T)) rfl ?_
              refine xj_E.loc [0, 1] xhth rfl (show xj_E (xX L xs) (D1 + 1) 97 2 [(0, .ref 32), (1, .int u1)] [] (SH, S2, T) P from ?_)
              exact (ih) _ _ _ _ (by omega) hd h
          · have hd := hd.2 q
            have h := fun v S9 e => h v S9 (Eq.trans e (if_neg q).symm)
            refine xj_E.adv 3 (pc' := 26) (ls' := [(2, .int (r_m_toExit S)), (0, .ref 32), (1, .int u1)]) (st' := [.int 9, .int (r_m_toExit S), .ref 32]) (w' := (SH, S, T)) rfl ?_
            refine xj_E.callv (d := D1) (S := SH) rfl rfl rfl rfl rfl (ok_m_make (by omega) hd.1 ?_)
            intro v3 S3 e3
            refine ⟨_, _, rfl, rfl, rfl, rfl, ?_⟩
            have hd := hd.2
            rw [← e3] at hd h
            refine xj_E.adv 1 (pc' := 2) (ls' := [(2, .int (r_m_toExit S)), (0, .ref 32), (1, .int u1)]) (st' := []) (w' := (SH, S3, T)) rfl ?_
            refine xj_E.loc [0, 1] xhth rfl (show xj_E (xX L xs) (D1 + 1) 97 2 [(0, .ref 32), (1, .int u1)] [] (SH, S3, T) P from ?_)
            exact (ih) _ _ _ _ (by omega) hd h
def f_m_workOff  (S : (Nat → Nat → Int32)) : Int32 × (Nat → Nat → Int32) := fk_m_workOff 200 1 S
def d_m_workOff  (S : (Nat → Nat → Int32)) : Prop := dk_m_workOff 200 1 S
seal f_m_workOff d_m_workOff
set_option maxHeartbeats 4000000 in
set_option maxRecDepth 100000 in
theorem ok_m_workOff {L : Nat} {xs : Nat → Int32} {T : Nat → Nat → Int64} {D : Nat} {S : (Nat → Nat → Int32)} {P : (Option Value ⊕ Nat) → xj_W → Nat → Nat → Prop} (hD : 807 ≤ D) (hd : d_m_workOff  S) (h : ∀ v S9, (v, S9) = f_m_workOff  S → P (.inl none) (SH, S9, T) 0 0) : xj_E (xX L xs) D 97 0 [(0, .ref 32)] [] (SH, S, T) P := by
  unfold d_m_workOff at hd
  unfold f_m_workOff at h
  refine xj_E.adv 2 (pc' := 2) (ls' := [(1, .int 1), (0, .ref 32)]) (st' := []) (w' := (SH, S, T)) rfl ?_
  refine xj_E.loc [0, 1] xhth rfl (show xj_E (xX L xs) D 97 2 [(0, .ref 32), (1, .int 1)] [] (SH, S, T) P from ?_)
  exact ((okk_m_workOff 200)) _ _ _ _ (by omega) hd h
def f_m_finish (a : Int32) (S : (Nat → Nat → Int32)) : Int32 × (Nat → Nat → Int32) := match f_m_workOff S with | (_, S1) => if (S1 32 38) ≠ 0 then (match f_m_putBack S1 with | (_, S2) => match f_m_fail a S2 with | (v3, S3) => (v3, S3)) else ((S1 32 37, S1))
def d_m_finish (a : Int32) (S : (Nat → Nat → Int32)) : Prop := d_m_workOff S ∧ (match f_m_workOff S with | (_, S1) => ((S1 32 38) ≠ 0 → (d_m_putBack S1 ∧ (match f_m_putBack S1 with | (_, S2) => d_m_fail a S2 ∧ (match f_m_fail a S2 with | (v3, S3) => True)))) ∧ (¬ ((S1 32 38) ≠ 0) → (True)))
seal f_m_finish d_m_finish
set_option maxHeartbeats 4000000 in
set_option maxRecDepth 100000 in
theorem ok_m_finish {L : Nat} {xs : Nat → Int32} {T : Nat → Nat → Int64} {D : Nat} {S : (Nat → Nat → Int32)} {P : (Option Value ⊕ Nat) → xj_W → Nat → Nat → Prop} {a : Int32} (hD : 808 ≤ D) (hd : d_m_finish a S) (h : ∀ v S9, (v, S9) = f_m_finish a S → P (.inl (some (.int v))) (SH, S9, T) 0 0) : xj_E (xX L xs) D 100 0 [(0, .ref 32), (1, .int a)] [] (SH, S, T) P := by
  unfold d_m_finish at hd
  unfold f_m_finish at h
  obtain ⟨D1, rfl⟩ : ∃ D1, D = D1 + 1 := ⟨D - 1, by omega⟩
  refine xj_E.adv 1 (pc' := 1) (ls' := [(0, .ref 32), (1, .int a)]) (st' := [.ref 32]) (w' := (SH, S, T)) rfl ?_
  refine xj_E.callv (d := D1) (S := SH) rfl rfl rfl rfl rfl (ok_m_workOff (by omega) hd.1 ?_)
  intro v1 S1 e1
  refine ⟨_, _, rfl, rfl, rfl, rfl, ?_⟩
  have hd := hd.2
  rw [← e1] at hd h
  refine xj_E.adv 3 (pc' := (if xj_cmp .ne (S1 32 38) 0 = true then 16 else 11)) (ls' := [(0, .ref 32), (1, .int a)]) (st' := []) (w' := (SH, S1, T)) rfl ?_
  refine xj_E.b_ne (fun q => ?_) (fun q => ?_)
  · have hd := hd.1 q
    have h := fun v S9 e => h v S9 (Eq.trans e (if_pos q).symm)
    refine xj_E.adv 1 (pc' := 17) (ls' := [(0, .ref 32), (1, .int a)]) (st' := [.ref 32]) (w' := (SH, S1, T)) rfl ?_
    refine xj_E.callv (d := D1) (S := SH) rfl rfl rfl rfl rfl (ok_m_putBack (by omega) hd.1 ?_)
    intro v2 S2 e2
    refine ⟨_, _, rfl, rfl, rfl, rfl, ?_⟩
    have hd := hd.2
    rw [← e2] at hd h
    refine xj_E.adv 2 (pc' := 22) (ls' := [(0, .ref 32), (1, .int a)]) (st' := [.int a, .ref 32]) (w' := (SH, S2, T)) rfl ?_
    refine xj_E.calli (d := D1) (S := SH) rfl rfl rfl rfl rfl (ok_m_fail (by omega) hd.1 ?_)
    intro v3 S3 e3
    refine ⟨_, _, _, rfl, rfl, rfl, rfl, ?_⟩
    have hd := hd.2
    rw [← e3] at hd h
    exact xj_E.ret rfl rfl rfl rfl (h _ _ rfl)
  · have hd := hd.2 q
    have h := fun v S9 e => h v S9 (Eq.trans e (if_neg q).symm)
    refine xj_E.adv 2 (pc' := 15) (ls' := [(0, .ref 32), (1, .int a)]) (st' := [.int (S1 32 37)]) (w' := (SH, S1, T)) rfl ?_
    exact xj_E.ret rfl rfl rfl rfl (h _ _ rfl)
def f_m_begin (a : Int32) (S : (Nat → Nat → Int32)) : Int32 × (Nat → Nat → Int32) := if (S 32 15) = 0 then (if a < 2 then (match f_m_fail 2 (xj_set S 32 0 0) with | (v1, S1) => (v1, S1)) else (if a ≤ 60 then (match f_m_keep (xj_set (xj_set S 32 0 0) 32 16 a) with | (_, S2) => match f_m_create 0 (-1) S2 with | (_, S3) => match f_m_make 0 2 S3 with | (_, S4) => match f_m_finish 3 S4 with | (v5, S5) => if (S5 32 38) ≠ 0 then ((v5, (xj_set S5 32 15 0))) else ((v5, (xj_set S5 32 15 1)))) else (match f_m_fail 2 (xj_set S 32 0 0) with | (v6, S6) => (v6, S6)))) else (match f_m_fail 1 (xj_set S 32 0 0) with | (v7, S7) => (v7, S7))
def d_m_begin (a : Int32) (S : (Nat → Nat → Int32)) : Prop := ((S 32 15) = 0 → ((a < 2 → (d_m_fail 2 (xj_set S 32 0 0) ∧ (match f_m_fail 2 (xj_set S 32 0 0) with | (v1, S1) => True))) ∧ (¬ (a < 2) → ((a ≤ 60 → (d_m_keep (xj_set (xj_set S 32 0 0) 32 16 a) ∧ (match f_m_keep (xj_set (xj_set S 32 0 0) 32 16 a) with | (_, S2) => d_m_create 0 (-1) S2 ∧ (match f_m_create 0 (-1) S2 with | (_, S3) => d_m_make 0 2 S3 ∧ (match f_m_make 0 2 S3 with | (_, S4) => d_m_finish 3 S4 ∧ (match f_m_finish 3 S4 with | (v5, S5) => ((S5 32 38) ≠ 0 → (True)) ∧ (¬ ((S5 32 38) ≠ 0) → (True)))))))) ∧ (¬ (a ≤ 60) → (d_m_fail 2 (xj_set S 32 0 0) ∧ (match f_m_fail 2 (xj_set S 32 0 0) with | (v6, S6) => True))))))) ∧ (¬ ((S 32 15) = 0) → (d_m_fail 1 (xj_set S 32 0 0) ∧ (match f_m_fail 1 (xj_set S 32 0 0) with | (v7, S7) => True)))
seal f_m_begin d_m_begin
set_option maxHeartbeats 4000000 in
set_option maxRecDepth 100000 in
theorem ok_m_begin {L : Nat} {xs : Nat → Int32} {T : Nat → Nat → Int64} {D : Nat} {S : (Nat → Nat → Int32)} {P : (Option Value ⊕ Nat) → xj_W → Nat → Nat → Prop} {a : Int32} (hD : 809 ≤ D) (hd : d_m_begin a S) (h : ∀ v S9, (v, S9) = f_m_begin a S → P (.inl (some (.int v))) (SH, S9, T) 0 0) : xj_E (xX L xs) D 101 0 [(0, .ref 32), (1, .int a)] [] (SH, S, T) P := by
  unfold d_m_begin at hd
  unfold f_m_begin at h
  obtain ⟨D1, rfl⟩ : ∃ D1, D = D1 + 1 := ⟨D - 1, by omega⟩
  refine xj_E.adv 6 (pc' := (if xj_cmp .eq (S 32 15) 0 = true then 18 else 12)) (ls' := [(0, .ref 32), (1, .int a)]) (st' := []) (w' := (SH, (xj_set S 32 0 0), T)) rfl ?_
  refine xj_E.b_eq (fun q => ?_) (fun q => ?_)
  · have hd := hd.1 q
    have h := fun v S9 e => h v S9 (Eq.trans e (if_pos q).symm)
    refine xj_E.adv 3 (pc' := (if xj_cmp .lt a 2 = true then 29 else 23)) (ls' := [(0, .ref 32), (1, .int a)]) (st' := []) (w' := (SH, (xj_set S 32 0 0), T)) rfl ?_
    refine xj_E.b_lt (fun q => ?_) (fun q => ?_)
    · have hd := hd.1 q
      have h := fun v S9 e => h v S9 (Eq.trans e (if_pos q).symm)
      refine xj_E.adv 2 (pc' := 31) (ls' := [(0, .ref 32), (1, .int a)]) (st' := [.int 2, .ref 32]) (w' := (SH, (xj_set S 32 0 0), T)) rfl ?_
      refine xj_E.calli (d := D1) (S := SH) rfl rfl rfl rfl rfl (ok_m_fail (by omega) hd.1 ?_)
      intro v1 S1 e1
      refine ⟨_, _, _, rfl, rfl, rfl, rfl, ?_⟩
      have hd := hd.2
      rw [← e1] at hd h
      exact xj_E.ret rfl rfl rfl rfl (h _ _ rfl)
    · have hd := hd.2 q
      have h := fun v S9 e => h v S9 (Eq.trans e (if_neg q).symm)
      refine xj_E.adv 3 (pc' := (if xj_cmp .le a 60 = true then 35 else 29)) (ls' := [(0, .ref 32), (1, .int a)]) (st' := []) (w' := (SH, (xj_set S 32 0 0), T)) rfl ?_
      refine xj_E.b_le (fun q => ?_) (fun q => ?_)
      · have hd := hd.1 q
        have h := fun v S9 e => h v S9 (Eq.trans e (if_pos q).symm)
        refine xj_E.adv 4 (pc' := 41) (ls' := [(0, .ref 32), (1, .int a)]) (st' := [.ref 32]) (w' := (SH, (xj_set (xj_set S 32 0 0) 32 16 a), T)) rfl ?_
        refine xj_E.callv (d := D1) (S := SH) rfl rfl rfl rfl rfl (ok_m_keep (by omega) hd.1 ?_)
        intro v2 S2 e2
        refine ⟨_, _, rfl, rfl, rfl, rfl, ?_⟩
        have hd := hd.2
        rw [← e2] at hd h
        refine xj_E.adv 3 (pc' := 47) (ls' := [(0, .ref 32), (1, .int a)]) (st' := [.int (-1), .int 0, .ref 32]) (w' := (SH, S2, T)) rfl ?_
        refine xj_E.callv (d := D1) (S := SH) rfl rfl rfl rfl rfl (ok_m_create (by omega) hd.1 ?_)
        intro v3 S3 e3
        refine ⟨_, _, rfl, rfl, rfl, rfl, ?_⟩
        have hd := hd.2
        rw [← e3] at hd h
        refine xj_E.adv 3 (pc' := 53) (ls' := [(0, .ref 32), (1, .int a)]) (st' := [.int 2, .int 0, .ref 32]) (w' := (SH, S3, T)) rfl ?_
        refine xj_E.callv (d := D1) (S := SH) rfl rfl rfl rfl rfl (ok_m_make (by omega) hd.1 ?_)
        intro v4 S4 e4
        refine ⟨_, _, rfl, rfl, rfl, rfl, ?_⟩
        have hd := hd.2
        rw [← e4] at hd h
        refine xj_E.adv 2 (pc' := 58) (ls' := [(0, .ref 32), (1, .int a)]) (st' := [.int 3, .ref 32]) (w' := (SH, S4, T)) rfl ?_
        refine xj_E.calli (d := D1) (S := SH) rfl rfl rfl rfl rfl (ok_m_finish (by omega) hd.1 ?_)
        intro v5 S5 e5
        refine ⟨_, _, _, rfl, rfl, rfl, rfl, ?_⟩
        have hd := hd.2
        rw [← e5] at hd h
        refine xj_E.adv 5 (pc' := (if xj_cmp .ne (S5 32 38) 0 = true then 74 else 70)) (ls' := [(2, .int v5), (0, .ref 32), (1, .int a)]) (st' := [.ref 32]) (w' := (SH, S5, T)) rfl ?_
        refine xj_E.b_ne (fun q => ?_) (fun q => ?_)
        · have hd := hd.1 q
          have h := fun v S9 e => h v S9 (Eq.trans e (if_pos q).symm)
          refine xj_E.adv 3 (pc' := 79) (ls' := [(2, .int v5), (0, .ref 32), (1, .int a)]) (st' := [.int v5]) (w' := (SH, (xj_set S5 32 15 0), T)) rfl ?_
          exact xj_E.ret rfl rfl rfl rfl (h _ _ rfl)
        · have hd := hd.2 q
          have h := fun v S9 e => h v S9 (Eq.trans e (if_neg q).symm)
          refine xj_E.adv 4 (pc' := 79) (ls' := [(2, .int v5), (0, .ref 32), (1, .int a)]) (st' := [.int v5]) (w' := (SH, (xj_set S5 32 15 1), T)) rfl ?_
          exact xj_E.ret rfl rfl rfl rfl (h _ _ rfl)
      · have hd := hd.2 q
        have h := fun v S9 e => h v S9 (Eq.trans e (if_neg q).symm)
        refine xj_E.adv 2 (pc' := 31) (ls' := [(0, .ref 32), (1, .int a)]) (st' := [.int 2, .ref 32]) (w' := (SH, (xj_set S 32 0 0), T)) rfl ?_
        refine xj_E.calli (d := D1) (S := SH) rfl rfl rfl rfl rfl (ok_m_fail (by omega) hd.1 ?_)
        intro v6 S6 e6
        refine ⟨_, _, _, rfl, rfl, rfl, rfl, ?_⟩
        have hd := hd.2
        rw [← e6] at hd h
        exact xj_E.ret rfl rfl rfl rfl (h _ _ rfl)
  · have hd := hd.2 q
    have h := fun v S9 e => h v S9 (Eq.trans e (if_neg q).symm)
    refine xj_E.adv 2 (pc' := 14) (ls' := [(0, .ref 32), (1, .int a)]) (st' := [.int 1, .ref 32]) (w' := (SH, (xj_set S 32 0 0), T)) rfl ?_
    refine xj_E.calli (d := D1) (S := SH) rfl rfl rfl rfl rfl (ok_m_fail (by omega) hd.1 ?_)
    intro v7 S7 e7
    refine ⟨_, _, _, rfl, rfl, rfl, rfl, ?_⟩
    have hd := hd.2
    rw [← e7] at hd h
    exact xj_E.ret rfl rfl rfl rfl (h _ _ rfl)
def f_m_move (a : Int32) (b : Int32) (S : (Nat → Nat → Int32)) : Int32 × (Nat → Nat → Int32) := if (r_m_refusal S a b) = 0 then (match f_m_keep (xj_set S 32 0 (r_m_refusal S a b)) with | (_, S1) => match f_m_make a b S1 with | (_, S2) => match f_m_finish 4 S2 with | (v3, S3) => (v3, S3)) else ((0, (xj_set S 32 0 (r_m_refusal S a b))))
def d_m_move (a : Int32) (b : Int32) (S : (Nat → Nat → Int32)) : Prop := d_m_refusal S a b ∧ (((r_m_refusal S a b) = 0 → (d_m_keep (xj_set S 32 0 (r_m_refusal S a b)) ∧ (match f_m_keep (xj_set S 32 0 (r_m_refusal S a b)) with | (_, S1) => d_m_make a b S1 ∧ (match f_m_make a b S1 with | (_, S2) => d_m_finish 4 S2 ∧ (match f_m_finish 4 S2 with | (v3, S3) => True))))) ∧ (¬ ((r_m_refusal S a b) = 0) → (True)))
seal f_m_move d_m_move
set_option maxHeartbeats 4000000 in
set_option maxRecDepth 100000 in
theorem ok_m_move {L : Nat} {xs : Nat → Int32} {T : Nat → Nat → Int64} {D : Nat} {S : (Nat → Nat → Int32)} {P : (Option Value ⊕ Nat) → xj_W → Nat → Nat → Prop} {a b : Int32} (hD : 809 ≤ D) (hd : d_m_move a b S) (h : ∀ v S9, (v, S9) = f_m_move a b S → P (.inl (some (.int v))) (SH, S9, T) 0 0) : xj_E (xX L xs) D 104 0 [(0, .ref 32), (1, .int a), (2, .int b)] [] (SH, S, T) P := by
  unfold d_m_move at hd
  unfold f_m_move at h
  obtain ⟨D1, rfl⟩ : ∃ D1, D = D1 + 1 := ⟨D - 1, by omega⟩
  refine xj_E.adv 4 (pc' := 4) (ls' := [(0, .ref 32), (1, .int a), (2, .int b)]) (st' := [.int b, .int a, .ref 32, .ref 32]) (w' := (SH, S, T)) rfl ?_
  refine xj_E.calli (d := D1) (S := SH) rfl rfl rfl rfl rfl (xj_E.deep (ok_m_refusal (d := 0) hd.1 ?_) (by omega))
  intro v e
  subst e
  refine ⟨_, _, _, rfl, rfl, rfl, rfl, ?_⟩
  have hd := hd.2
  refine xj_E.adv 4 (pc' := (if xj_cmp .eq (r_m_refusal S a b) 0 = true then 19 else 17)) (ls' := [(0, .ref 32), (1, .int a), (2, .int b)]) (st' := []) (w' := (SH, (xj_set S 32 0 (r_m_refusal S a b)), T)) rfl ?_
  refine xj_E.b_eq (fun q => ?_) (fun q => ?_)
  · have hd := hd.1 q
    have h := fun v S9 e => h v S9 (Eq.trans e (if_pos q).symm)
    refine xj_E.adv 1 (pc' := 20) (ls' := [(0, .ref 32), (1, .int a), (2, .int b)]) (st' := [.ref 32]) (w' := (SH, (xj_set S 32 0 (r_m_refusal S a b)), T)) rfl ?_
    refine xj_E.callv (d := D1) (S := SH) rfl rfl rfl rfl rfl (ok_m_keep (by omega) hd.1 ?_)
    intro v1 S1 e1
    refine ⟨_, _, rfl, rfl, rfl, rfl, ?_⟩
    have hd := hd.2
    rw [← e1] at hd h
    refine xj_E.adv 3 (pc' := 26) (ls' := [(0, .ref 32), (1, .int a), (2, .int b)]) (st' := [.int b, .int a, .ref 32]) (w' := (SH, S1, T)) rfl ?_
    refine xj_E.callv (d := D1) (S := SH) rfl rfl rfl rfl rfl (ok_m_make (by omega) hd.1 ?_)
    intro v2 S2 e2
    refine ⟨_, _, rfl, rfl, rfl, rfl, ?_⟩
    have hd := hd.2
    rw [← e2] at hd h
    refine xj_E.adv 2 (pc' := 31) (ls' := [(0, .ref 32), (1, .int a), (2, .int b)]) (st' := [.int 4, .ref 32]) (w' := (SH, S2, T)) rfl ?_
    refine xj_E.calli (d := D1) (S := SH) rfl rfl rfl rfl rfl (ok_m_finish (by omega) hd.1 ?_)
    intro v3 S3 e3
    refine ⟨_, _, _, rfl, rfl, rfl, rfl, ?_⟩
    have hd := hd.2
    rw [← e3] at hd h
    exact xj_E.ret rfl rfl rfl rfl (h _ _ rfl)
  · have hd := hd.2 q
    have h := fun v S9 e => h v S9 (Eq.trans e (if_neg q).symm)
    refine xj_E.adv 1 (pc' := 18) (ls' := [(0, .ref 32), (1, .int a), (2, .int b)]) (st' := [.int 0]) (w' := (SH, (xj_set S 32 0 (r_m_refusal S a b)), T)) rfl ?_
    exact xj_E.ret rfl rfl rfl rfl (h _ _ rfl)
def f_m_set (a : Int32) (b : Int32) (S : (Nat → Nat → Int32)) : Int32 × (Nat → Nat → Int32) := if (r_m_within (xj_set S 32 0 0) a 3) ≠ 0 then (if (S 32 15) ≠ 0 then (match f_m_keep (xj_set S 32 0 0) with | (_, S1) => if (S1 50 a.toNatClampNeg) = b then (match f_m_finish 2 (xj_set S1 50 a.toNatClampNeg b) with | (v2, S2) => (v2, S2)) else (match f_m_markVariable a S1 with | (_, S3) => match f_m_finish 2 (xj_set S3 50 a.toNatClampNeg b) with | (v4, S4) => (v4, S4))) else ((0, (xj_set (xj_set S 32 0 0) 50 a.toNatClampNeg b)))) else (match f_m_fail 1 (xj_set S 32 0 0) with | (v5, S5) => (v5, S5))
def d_m_set (a : Int32) (b : Int32) (S : (Nat → Nat → Int32)) : Prop := d_m_within (xj_set S 32 0 0) a 3 ∧ (((r_m_within (xj_set S 32 0 0) a 3) ≠ 0 → (((S 32 15) ≠ 0 → (d_m_keep (xj_set S 32 0 0) ∧ (match f_m_keep (xj_set S 32 0 0) with | (_, S1) => vp_in a 4 ∧ (((S1 50 a.toNatClampNeg) = b → (vp_in a 4 ∧ (d_m_finish 2 (xj_set S1 50 a.toNatClampNeg b) ∧ (match f_m_finish 2 (xj_set S1 50 a.toNatClampNeg b) with | (v2, S2) => True)))) ∧ (¬ ((S1 50 a.toNatClampNeg) = b) → (d_m_markVariable a S1 ∧ (match f_m_markVariable a S1 with | (_, S3) => vp_in a 4 ∧ (d_m_finish 2 (xj_set S3 50 a.toNatClampNeg b) ∧ (match f_m_finish 2 (xj_set S3 50 a.toNatClampNeg b) with | (v4, S4) => True))))))))) ∧ (¬ ((S 32 15) ≠ 0) → (vp_in a 4 ∧ (True))))) ∧ (¬ ((r_m_within (xj_set S 32 0 0) a 3) ≠ 0) → (d_m_fail 1 (xj_set S 32 0 0) ∧ (match f_m_fail 1 (xj_set S 32 0 0) with | (v5, S5) => True))))
seal f_m_set d_m_set
set_option maxHeartbeats 4000000 in
set_option maxRecDepth 100000 in
theorem ok_m_set {L : Nat} {xs : Nat → Int32} {T : Nat → Nat → Int64} {D : Nat} {S : (Nat → Nat → Int32)} {P : (Option Value ⊕ Nat) → xj_W → Nat → Nat → Prop} {a b : Int32} (hD : 809 ≤ D) (hd : d_m_set a b S) (h : ∀ v S9, (v, S9) = f_m_set a b S → P (.inl (some (.int v))) (SH, S9, T) 0 0) : xj_E (xX L xs) D 107 0 [(0, .ref 32), (1, .int a), (2, .int b)] [] (SH, S, T) P := by
  unfold d_m_set at hd
  unfold f_m_set at h
  obtain ⟨D1, rfl⟩ : ∃ D1, D = D1 + 1 := ⟨D - 1, by omega⟩
  refine xj_E.adv 5 (pc' := 7) (ls' := [(0, .ref 32), (1, .int a), (2, .int b)]) (st' := [.int 3, .int a]) (w' := (SH, (xj_set S 32 0 0), T)) rfl ?_
  refine xj_E.calli (d := D1) (S := SH) rfl rfl rfl rfl rfl (xj_E.deep (ok_m_within (d := 0) hd.1 ?_) (by omega))
  intro v e
  subst e
  refine ⟨_, _, _, rfl, rfl, rfl, rfl, ?_⟩
  have hd := hd.2
  refine xj_E.adv 1 (pc' := (if xj_cmp .ne (r_m_within (xj_set S 32 0 0) a 3) 0 = true then 19 else 13)) (ls' := [(0, .ref 32), (1, .int a), (2, .int b)]) (st' := []) (w' := (SH, (xj_set S 32 0 0), T)) rfl ?_
  refine xj_E.b_ne (fun q => ?_) (fun q => ?_)
  · have hd := hd.1 q
    have h := fun v S9 e => h v S9 (Eq.trans e (if_pos q).symm)
    refine xj_E.adv 3 (pc' := (if xj_cmp .ne (S 32 15) 0 = true then 35 else 26)) (ls' := [(0, .ref 32), (1, .int a), (2, .int b)]) (st' := []) (w' := (SH, (xj_set S 32 0 0), T)) rfl ?_
    refine xj_E.b_ne (fun q => ?_) (fun q => ?_)
    · have hd := hd.1 q
      have h := fun v S9 e => h v S9 (Eq.trans e (if_pos q).symm)
      refine xj_E.adv 1 (pc' := 36) (ls' := [(0, .ref 32), (1, .int a), (2, .int b)]) (st' := [.ref 32]) (w' := (SH, (xj_set S 32 0 0), T)) rfl ?_
      refine xj_E.callv (d := D1) (S := SH) rfl rfl rfl rfl rfl (ok_m_keep (by omega) hd.1 ?_)
      intro v1 S1 e1
      refine ⟨_, _, rfl, rfl, rfl, rfl, ?_⟩
      have hd := hd.2
      rw [← e1] at hd h
      refine xj_E.adv 3 (pc' := 44) (ls' := [(0, .ref 32), (1, .int a), (2, .int b)]) (st' := [.int a, .ref 50]) (w' := (SH, S1, T)) rfl ?_
      refine xj_E.iald rfl rfl hd.1 ?_
      have hd := hd.2
      refine xj_E.adv 2 (pc' := (if xj_cmp .eq (S1 50 a.toNatClampNeg) b = true then 54 else 49)) (ls' := [(0, .ref 32), (1, .int a), (2, .int b)]) (st' := []) (w' := (SH, S1, T)) rfl ?_
      refine xj_E.b_eq (fun q => ?_) (fun q => ?_)
      · have hd := hd.1 q
        have h := fun v S9 e => h v S9 (Eq.trans e (if_pos q).symm)
        refine xj_E.adv 4 (pc' := 60) (ls' := [(0, .ref 32), (1, .int a), (2, .int b)]) (st' := [.int b, .int a, .ref 50]) (w' := (SH, S1, T)) rfl ?_
        refine xj_E.iast rfl rfl hd.1 ?_
        have hd := hd.2
        refine xj_E.adv 2 (pc' := 63) (ls' := [(0, .ref 32), (1, .int a), (2, .int b)]) (st' := [.int 2, .ref 32]) (w' := (SH, (xj_set S1 50 a.toNatClampNeg b), T)) rfl ?_
        refine xj_E.calli (d := D1) (S := SH) rfl rfl rfl rfl rfl (ok_m_finish (by omega) hd.1 ?_)
        intro v2 S2 e2
        refine ⟨_, _, _, rfl, rfl, rfl, rfl, ?_⟩
        have hd := hd.2
        rw [← e2] at hd h
        exact xj_E.ret rfl rfl rfl rfl (h _ _ rfl)
      · have hd := hd.2 q
        have h := fun v S9 e => h v S9 (Eq.trans e (if_neg q).symm)
        refine xj_E.adv 2 (pc' := 51) (ls' := [(0, .ref 32), (1, .int a), (2, .int b)]) (st' := [.int a, .ref 32]) (w' := (SH, S1, T)) rfl ?_
        refine xj_E.callv (d := D1) (S := SH) rfl rfl rfl rfl rfl (ok_m_markVariable (by omega) hd.1 ?_)
        intro v3 S3 e3
        refine ⟨_, _, rfl, rfl, rfl, rfl, ?_⟩
        have hd := hd.2
        rw [← e3] at hd h
        refine xj_E.adv 4 (pc' := 60) (ls' := [(0, .ref 32), (1, .int a), (2, .int b)]) (st' := [.int b, .int a, .ref 50]) (w' := (SH, S3, T)) rfl ?_
        refine xj_E.iast rfl rfl hd.1 ?_
        have hd := hd.2
        refine xj_E.adv 2 (pc' := 63) (ls' := [(0, .ref 32), (1, .int a), (2, .int b)]) (st' := [.int 2, .ref 32]) (w' := (SH, (xj_set S3 50 a.toNatClampNeg b), T)) rfl ?_
        refine xj_E.calli (d := D1) (S := SH) rfl rfl rfl rfl rfl (ok_m_finish (by omega) hd.1 ?_)
        intro v4 S4 e4
        refine ⟨_, _, _, rfl, rfl, rfl, rfl, ?_⟩
        have hd := hd.2
        rw [← e4] at hd h
        exact xj_E.ret rfl rfl rfl rfl (h _ _ rfl)
    · have hd := hd.2 q
      have h := fun v S9 e => h v S9 (Eq.trans e (if_neg q).symm)
      refine xj_E.adv 4 (pc' := 32) (ls' := [(0, .ref 32), (1, .int a), (2, .int b)]) (st' := [.int b, .int a, .ref 50]) (w' := (SH, (xj_set S 32 0 0), T)) rfl ?_
      refine xj_E.iast rfl rfl hd.1 ?_
      have hd := hd.2
      refine xj_E.adv 1 (pc' := 34) (ls' := [(0, .ref 32), (1, .int a), (2, .int b)]) (st' := [.int 0]) (w' := (SH, (xj_set (xj_set S 32 0 0) 50 a.toNatClampNeg b), T)) rfl ?_
      exact xj_E.ret rfl rfl rfl rfl (h _ _ rfl)
  · have hd := hd.2 q
    have h := fun v S9 e => h v S9 (Eq.trans e (if_neg q).symm)
    refine xj_E.adv 2 (pc' := 15) (ls' := [(0, .ref 32), (1, .int a), (2, .int b)]) (st' := [.int 1, .ref 32]) (w' := (SH, (xj_set S 32 0 0), T)) rfl ?_
    refine xj_E.calli (d := D1) (S := SH) rfl rfl rfl rfl rfl (ok_m_fail (by omega) hd.1 ?_)
    intro v5 S5 e5
    refine ⟨_, _, _, rfl, rfl, rfl, rfl, ?_⟩
    have hd := hd.2
    rw [← e5] at hd h
    exact xj_E.ret rfl rfl rfl rfl (h _ _ rfl)
def fk_c_all : Nat → (Int32 → Int32 → Int32 → (Nat → Nat → Int32) → (Int32 × (Nat → Nat → Int32))) × (Int32 → Int32 → Int32 → (Nat → Nat → Int32) → (Int32 × (Nat → Nat → Int32))) × (Int32 → Int32 → Int32 → (Nat → Nat → Int32) → (Int32 × (Nat → Nat → Int32))) × (Int32 → Int32 → (Nat → Nat → Int32) → (Int32 × (Nat → Nat → Int32))) × (Int32 → Int32 → (Nat → Nat → Int32) → (Int32 × (Nat → Nat → Int32))) × (Int32 → Int32 → Int32 → Int32 → (Nat → Nat → Int32) → (Int32 × (Nat → Nat → Int32))) × (Int32 → Int32 → (Nat → Nat → Int32) → (Int32 × (Nat → Nat → Int32))) × (Int32 → Int32 → Int32 → (Nat → Nat → Int32) → (Int32 × (Nat → Nat → Int32))) × (Int32 → Int32 → Int32 → Int32 → (Nat → Nat → Int32) → (Int32 × (Nat → Nat → Int32))) × (Int32 → Int32 → Int32 → Int32 → Int32 → Int32 → (Nat → Nat → Int32) → (Int32 × (Nat → Nat → Int32)))
  | 0 => (fun _ _ _ S => (0, S), fun _ _ _ S => (0, S), fun _ _ _ S => (0, S), fun _ _ S => (0, S), fun _ _ S => (0, S), fun _ _ _ _ S => (0, S), fun _ _ S => (0, S), fun _ _ _ S => (0, S), fun _ _ _ _ S => (0, S), fun _ _ _ _ _ _ S => (0, S))
  | n + 1 => (fun u1 u2 u3 S => if (S 0 4) ≠ 0 then ((0, (xj_set S 0 4 1))) else (if (S 14 1) ≠ 40 then (match f_l_add u1 u2 S with | (v1, S1) => match (fk_c_all n).2.1 v1 0 u3 S1 with | (_, S2) => (0, S2)) else ((0, (xj_set S 0 4 1)))),
    fun u1 u2 u3 S => if (S 0 4) ≠ 0 then ((0, (xj_set S 0 4 1))) else (if (S 0 3) = (S 14 0) then ((0, (xj_set S 0 4 1))) else (if u3 ≤ 12 then (match f_l_note u1 u2 (xj_set S 0 3 ((S 0 3) + 1)) with | (_, S1) => match f_c_markSiblings u1 (r_p_partsHearing S1 (S1 15 u1.toNatClampNeg) u2) S1 with | (_, S2) => if (S2 2 (S2 15 u1.toNatClampNeg).toNatClampNeg) ≠ 0 then (if u2 = 4 then (match (fk_c_all n).2.2.2.2.2.2.1 u1 (u3 + 1) S2 with | (_, S3) => (0, S3)) else (if u2 ≠ 3 then ((0, S2)) else (match (fk_c_all n).2.2.2.2.2.2.1 u1 (u3 + 1) S2 with | (_, S4) => (0, S4)))) else (match (fk_c_all n).2.2.1 u1 u2 (u3 + 1) S2 with | (_, S5) => if u2 = 4 then (match (fk_c_all n).2.2.2.2.2.2.1 u1 (u3 + 1) S5 with | (_, S6) => (0, S6)) else (if u2 ≠ 3 then ((0, S5)) else (match (fk_c_all n).2.2.2.2.2.2.1 u1 (u3 + 1) S5 with | (_, S7) => (0, S7))))) else ((0, (xj_set S 0 4 1))))),
    fun u1 u2 u3 S => if u2 = 2 then (match (fk_c_all n).2.2.2.1 u1 u3 S with | (_, S1) => (0, S1)) else (if u2 = 3 then ((0, S)) else (if u2 = 4 then (match (fk_c_all n).2.2.2.2.1 u1 u3 S with | (_, S2) => (0, S2)) else (if u2 = 5 then (match (fk_c_all n).2.2.2.2.2.1 u1 2 5 u3 S with | (_, S3) => (0, S3)) else (if u2 = 6 then (match (fk_c_all n).2.2.2.2.2.1 u1 3 6 u3 S with | (_, S4) => (0, S4)) else (if u2 = 7 then ((0, S)) else (if u2 = 8 then ((0, S)) else (if u2 = 9 then (match (fk_c_all n).2.2.2.2.1 u1 u3 S with | (_, S5) => (0, S5)) else ((0, S))))))))),
    fun u1 u2 S => (fk_c_all n).2.2.2.2.2.2.2.1 u1 u2 0 S,
    fun u1 u2 S => (fk_c_all n).2.2.2.2.2.2.2.2.1 u1 u2 (S 14 1) 0 S,
    fun u1 u2 u3 u4 S => (fk_c_all n).2.2.2.2.2.2.2.2.2 u1 u2 u3 u4 (S 14 1) 0 S,
    fun u1 u2 S => if (r_p_hasFlag S (S 15 u1.toNatClampNeg) 1) = 0 then ((0, S)) else (if (r_p_hasEntry S (S 15 u1.toNatClampNeg)) ≠ 0 then ((0, S)) else (if (r_c_parentLets S u1) = 0 then ((0, S)) else (match (fk_c_all n).1 (S 15 u1.toNatClampNeg) (S 16 u1.toNatClampNeg) u2 S with | (_, S1) => (0, S1)))),
    fun u1 u2 u3 S => if (S 1 0) ≤ u3 then ((0, S)) else (if (S 3 u3.toNatClampNeg) ≠ (S 15 u1.toNatClampNeg) then ((fk_c_all n).2.2.2.2.2.2.2.1 u1 u2 (u3 + 1) S) else (match (fk_c_all n).1 u3 u1 u2 S with | (_, S1) => (fk_c_all n).2.2.2.2.2.2.2.1 u1 u2 (u3 + 1) S1)),
    fun u1 u2 u3 u4 S => if u3 ≤ u4 then ((0, S)) else (if (S 16 u4.toNatClampNeg) ≠ u1 then ((fk_c_all n).2.2.2.2.2.2.2.2.1 u1 u2 u3 (u4 + 1) S) else (if (r_l_isFinal S u4) ≠ 0 then ((fk_c_all n).2.2.2.2.2.2.2.2.1 u1 u2 u3 (u4 + 1) S) else (match (fk_c_all n).2.1 u4 9 u2 S with | (_, S1) => (fk_c_all n).2.2.2.2.2.2.2.2.1 u1 u2 u3 (u4 + 1) S1))),
    fun u1 u2 u3 u4 u5 u6 S => if u5 ≤ u6 then ((0, S)) else (if (S 16 u6.toNatClampNeg) ≠ u1 then ((fk_c_all n).2.2.2.2.2.2.2.2.2 u1 u2 u3 u4 u5 (u6 + 1) S) else (if (S 17 u6.toNatClampNeg) ≠ u2 then ((fk_c_all n).2.2.2.2.2.2.2.2.2 u1 u2 u3 u4 u5 (u6 + 1) S) else (match (fk_c_all n).2.1 u6 u3 u4 S with | (_, S1) => (fk_c_all n).2.2.2.2.2.2.2.2.2 u1 u2 u3 u4 u5 (u6 + 1) S1))))
def dk_c_all : Nat → (Int32 → Int32 → Int32 → (Nat → Nat → Int32) → Prop) × (Int32 → Int32 → Int32 → (Nat → Nat → Int32) → Prop) × (Int32 → Int32 → Int32 → (Nat → Nat → Int32) → Prop) × (Int32 → Int32 → (Nat → Nat → Int32) → Prop) × (Int32 → Int32 → (Nat → Nat → Int32) → Prop) × (Int32 → Int32 → Int32 → Int32 → (Nat → Nat → Int32) → Prop) × (Int32 → Int32 → (Nat → Nat → Int32) → Prop) × (Int32 → Int32 → Int32 → (Nat → Nat → Int32) → Prop) × (Int32 → Int32 → Int32 → Int32 → (Nat → Nat → Int32) → Prop) × (Int32 → Int32 → Int32 → Int32 → Int32 → Int32 → (Nat → Nat → Int32) → Prop)
  | 0 => (fun _ _ _ S => False, fun _ _ _ S => False, fun _ _ _ S => False, fun _ _ S => False, fun _ _ S => False, fun _ _ _ _ S => False, fun _ _ S => False, fun _ _ _ S => False, fun _ _ _ _ S => False, fun _ _ _ _ _ _ S => False)
  | n + 1 => (fun u1 u2 u3 S => ((S 0 4) ≠ 0 → (True)) ∧ (¬ ((S 0 4) ≠ 0) → (((S 14 1) ≠ 40 → (d_l_add u1 u2 S ∧ (match f_l_add u1 u2 S with | (v1, S1) => (dk_c_all n).2.1 v1 0 u3 S1 ∧ (match (fk_c_all n).2.1 v1 0 u3 S1 with | (_, S2) => True)))) ∧ (¬ ((S 14 1) ≠ 40) → (True)))),
    fun u1 u2 u3 S => ((S 0 4) ≠ 0 → (True)) ∧ (¬ ((S 0 4) ≠ 0) → (((S 0 3) = (S 14 0) → (True)) ∧ (¬ ((S 0 3) = (S 14 0)) → ((u3 ≤ 12 → (d_l_note u1 u2 (xj_set S 0 3 ((S 0 3) + 1)) ∧ (match f_l_note u1 u2 (xj_set S 0 3 ((S 0 3) + 1)) with | (_, S1) => vp_in u1 40 ∧ (d_p_partsHearing S1 (S1 15 u1.toNatClampNeg) u2 ∧ (d_c_markSiblings u1 (r_p_partsHearing S1 (S1 15 u1.toNatClampNeg) u2) S1 ∧ (match f_c_markSiblings u1 (r_p_partsHearing S1 (S1 15 u1.toNatClampNeg) u2) S1 with | (_, S2) => vp_in u1 40 ∧ (vp_in (S2 15 u1.toNatClampNeg) 12 ∧ (((S2 2 (S2 15 u1.toNatClampNeg).toNatClampNeg) ≠ 0 → ((u2 = 4 → ((dk_c_all n).2.2.2.2.2.2.1 u1 (u3 + 1) S2 ∧ (match (fk_c_all n).2.2.2.2.2.2.1 u1 (u3 + 1) S2 with | (_, S3) => True))) ∧ (¬ (u2 = 4) → ((u2 ≠ 3 → (True)) ∧ (¬ (u2 ≠ 3) → ((dk_c_all n).2.2.2.2.2.2.1 u1 (u3 + 1) S2 ∧ (match (fk_c_all n).2.2.2.2.2.2.1 u1 (u3 + 1) S2 with | (_, S4) => True))))))) ∧ (¬ ((S2 2 (S2 15 u1.toNatClampNeg).toNatClampNeg) ≠ 0) → ((dk_c_all n).2.2.1 u1 u2 (u3 + 1) S2 ∧ (match (fk_c_all n).2.2.1 u1 u2 (u3 + 1) S2 with | (_, S5) => (u2 = 4 → ((dk_c_all n).2.2.2.2.2.2.1 u1 (u3 + 1) S5 ∧ (match (fk_c_all n).2.2.2.2.2.2.1 u1 (u3 + 1) S5 with | (_, S6) => True))) ∧ (¬ (u2 = 4) → ((u2 ≠ 3 → (True)) ∧ (¬ (u2 ≠ 3) → ((dk_c_all n).2.2.2.2.2.2.1 u1 (u3 + 1) S5 ∧ (match (fk_c_all n).2.2.2.2.2.2.1 u1 (u3 + 1) S5 with | (_, S7) => True)))))))))))))))) ∧ (¬ (u3 ≤ 12) → (True)))))),
    fun u1 u2 u3 S => (u2 = 2 → ((dk_c_all n).2.2.2.1 u1 u3 S ∧ (match (fk_c_all n).2.2.2.1 u1 u3 S with | (_, S1) => True))) ∧ (¬ (u2 = 2) → ((u2 = 3 → (True)) ∧ (¬ (u2 = 3) → ((u2 = 4 → ((dk_c_all n).2.2.2.2.1 u1 u3 S ∧ (match (fk_c_all n).2.2.2.2.1 u1 u3 S with | (_, S2) => True))) ∧ (¬ (u2 = 4) → ((u2 = 5 → ((dk_c_all n).2.2.2.2.2.1 u1 2 5 u3 S ∧ (match (fk_c_all n).2.2.2.2.2.1 u1 2 5 u3 S with | (_, S3) => True))) ∧ (¬ (u2 = 5) → ((u2 = 6 → ((dk_c_all n).2.2.2.2.2.1 u1 3 6 u3 S ∧ (match (fk_c_all n).2.2.2.2.2.1 u1 3 6 u3 S with | (_, S4) => True))) ∧ (¬ (u2 = 6) → ((u2 = 7 → (True)) ∧ (¬ (u2 = 7) → ((u2 = 8 → (True)) ∧ (¬ (u2 = 8) → ((u2 = 9 → ((dk_c_all n).2.2.2.2.1 u1 u3 S ∧ (match (fk_c_all n).2.2.2.2.1 u1 u3 S with | (_, S5) => True))) ∧ (¬ (u2 = 9) → (True)))))))))))))))),
    fun u1 u2 S => (dk_c_all n).2.2.2.2.2.2.2.1 u1 u2 0 S,
    fun u1 u2 S => (dk_c_all n).2.2.2.2.2.2.2.2.1 u1 u2 (S 14 1) 0 S,
    fun u1 u2 u3 u4 S => (dk_c_all n).2.2.2.2.2.2.2.2.2 u1 u2 u3 u4 (S 14 1) 0 S,
    fun u1 u2 S => vp_in u1 40 ∧ (d_p_hasFlag S (S 15 u1.toNatClampNeg) 1 ∧ (((r_p_hasFlag S (S 15 u1.toNatClampNeg) 1) = 0 → (True)) ∧ (¬ ((r_p_hasFlag S (S 15 u1.toNatClampNeg) 1) = 0) → (d_p_hasEntry S (S 15 u1.toNatClampNeg) ∧ (((r_p_hasEntry S (S 15 u1.toNatClampNeg)) ≠ 0 → (True)) ∧ (¬ ((r_p_hasEntry S (S 15 u1.toNatClampNeg)) ≠ 0) → (d_c_parentLets S u1 ∧ (((r_c_parentLets S u1) = 0 → (True)) ∧ (¬ ((r_c_parentLets S u1) = 0) → (vp_in u1 40 ∧ ((dk_c_all n).1 (S 15 u1.toNatClampNeg) (S 16 u1.toNatClampNeg) u2 S ∧ (match (fk_c_all n).1 (S 15 u1.toNatClampNeg) (S 16 u1.toNatClampNeg) u2 S with | (_, S1) => True)))))))))))),
    fun u1 u2 u3 S => ((S 1 0) ≤ u3 → (True)) ∧ (¬ ((S 1 0) ≤ u3) → (vp_in u3 12 ∧ (vp_in u1 40 ∧ (((S 3 u3.toNatClampNeg) ≠ (S 15 u1.toNatClampNeg) → ((dk_c_all n).2.2.2.2.2.2.2.1 u1 u2 (u3 + 1) S)) ∧ (¬ ((S 3 u3.toNatClampNeg) ≠ (S 15 u1.toNatClampNeg)) → ((dk_c_all n).1 u3 u1 u2 S ∧ (match (fk_c_all n).1 u3 u1 u2 S with | (_, S1) => (dk_c_all n).2.2.2.2.2.2.2.1 u1 u2 (u3 + 1) S1))))))),
    fun u1 u2 u3 u4 S => (u3 ≤ u4 → (True)) ∧ (¬ (u3 ≤ u4) → (vp_in u4 40 ∧ (((S 16 u4.toNatClampNeg) ≠ u1 → ((dk_c_all n).2.2.2.2.2.2.2.2.1 u1 u2 u3 (u4 + 1) S)) ∧ (¬ ((S 16 u4.toNatClampNeg) ≠ u1) → (d_l_isFinal S u4 ∧ (((r_l_isFinal S u4) ≠ 0 → ((dk_c_all n).2.2.2.2.2.2.2.2.1 u1 u2 u3 (u4 + 1) S)) ∧ (¬ ((r_l_isFinal S u4) ≠ 0) → ((dk_c_all n).2.1 u4 9 u2 S ∧ (match (fk_c_all n).2.1 u4 9 u2 S with | (_, S1) => (dk_c_all n).2.2.2.2.2.2.2.2.1 u1 u2 u3 (u4 + 1) S1))))))))),
    fun u1 u2 u3 u4 u5 u6 S => (u5 ≤ u6 → (True)) ∧ (¬ (u5 ≤ u6) → (vp_in u6 40 ∧ (((S 16 u6.toNatClampNeg) ≠ u1 → ((dk_c_all n).2.2.2.2.2.2.2.2.2 u1 u2 u3 u4 u5 (u6 + 1) S)) ∧ (¬ ((S 16 u6.toNatClampNeg) ≠ u1) → (vp_in u6 40 ∧ (((S 17 u6.toNatClampNeg) ≠ u2 → ((dk_c_all n).2.2.2.2.2.2.2.2.2 u1 u2 u3 u4 u5 (u6 + 1) S)) ∧ (¬ ((S 17 u6.toNatClampNeg) ≠ u2) → ((dk_c_all n).2.1 u6 u3 u4 S ∧ (match (fk_c_all n).2.1 u6 u3 u4 S with | (_, S1) => (dk_c_all n).2.2.2.2.2.2.2.2.2 u1 u2 u3 u4 u5 (u6 + 1) S1))))))))))
set_option maxHeartbeats 4000000 in
set_option maxRecDepth 100000 in
theorem okk_c_all {L : Nat} {xs : Nat → Int32} {T : Nat → Nat → Int64} (n : Nat) : (∀ (u1 : Int32) (u2 : Int32) (u3 : Int32) S D (P : (Option Value ⊕ Nat) → xj_W → Nat → Nat → Prop), 203 + n ≤ D → (dk_c_all n).1 u1 u2 u3 S → (∀ v S9, (v, S9) = (fk_c_all n).1 u1 u2 u3 S → P (.inl none) (SH, S9, T) 0 0) → xj_E (xX L xs) D 57 0 [(0, .ref 0), (1, .int u1), (2, .int u2), (3, .int u3)] [] (SH, S, T) P) ∧
    (∀ (u1 : Int32) (u2 : Int32) (u3 : Int32) S D (P : (Option Value ⊕ Nat) → xj_W → Nat → Nat → Prop), 203 + n ≤ D → (dk_c_all n).2.1 u1 u2 u3 S → (∀ v S9, (v, S9) = (fk_c_all n).2.1 u1 u2 u3 S → P (.inl none) (SH, S9, T) 0 0) → xj_E (xX L xs) D 58 0 [(0, .ref 0), (1, .int u1), (2, .int u2), (3, .int u3)] [] (SH, S, T) P) ∧
    (∀ (u1 : Int32) (u2 : Int32) (u3 : Int32) S D (P : (Option Value ⊕ Nat) → xj_W → Nat → Nat → Prop), 203 + n ≤ D → (dk_c_all n).2.2.1 u1 u2 u3 S → (∀ v S9, (v, S9) = (fk_c_all n).2.2.1 u1 u2 u3 S → P (.inl none) (SH, S9, T) 0 0) → xj_E (xX L xs) D 62 0 [(0, .ref 0), (1, .int u1), (2, .int u2), (3, .int u3)] [] (SH, S, T) P) ∧
    (∀ (u1 : Int32) (u2 : Int32) S D (P : (Option Value ⊕ Nat) → xj_W → Nat → Nat → Prop), 203 + n ≤ D → (dk_c_all n).2.2.2.1 u1 u2 S → (∀ v S9, (v, S9) = (fk_c_all n).2.2.2.1 u1 u2 S → P (.inl none) (SH, S9, T) 0 0) → xj_E (xX L xs) D 63 0 [(0, .ref 0), (1, .int u1), (2, .int u2)] [] (SH, S, T) P) ∧
    (∀ (u1 : Int32) (u2 : Int32) S D (P : (Option Value ⊕ Nat) → xj_W → Nat → Nat → Prop), 203 + n ≤ D → (dk_c_all n).2.2.2.2.1 u1 u2 S → (∀ v S9, (v, S9) = (fk_c_all n).2.2.2.2.1 u1 u2 S → P (.inl none) (SH, S9, T) 0 0) → xj_E (xX L xs) D 64 0 [(0, .ref 0), (1, .int u1), (2, .int u2)] [] (SH, S, T) P) ∧
    (∀ (u1 : Int32) (u2 : Int32) (u3 : Int32) (u4 : Int32) S D (P : (Option Value ⊕ Nat) → xj_W → Nat → Nat → Prop), 203 + n ≤ D → (dk_c_all n).2.2.2.2.2.1 u1 u2 u3 u4 S → (∀ v S9, (v, S9) = (fk_c_all n).2.2.2.2.2.1 u1 u2 u3 u4 S → P (.inl none) (SH, S9, T) 0 0) → xj_E (xX L xs) D 65 0 [(0, .ref 0), (1, .int u1), (2, .int u2), (3, .int u3), (4, .int u4)] [] (SH, S, T) P) ∧
    (∀ (u1 : Int32) (u2 : Int32) S D (P : (Option Value ⊕ Nat) → xj_W → Nat → Nat → Prop), 203 + n ≤ D → (dk_c_all n).2.2.2.2.2.2.1 u1 u2 S → (∀ v S9, (v, S9) = (fk_c_all n).2.2.2.2.2.2.1 u1 u2 S → P (.inl none) (SH, S9, T) 0 0) → xj_E (xX L xs) D 66 0 [(0, .ref 0), (1, .int u1), (2, .int u2)] [] (SH, S, T) P) ∧
    (∀ (u1 : Int32) (u2 : Int32) (u3 : Int32) S D (P : (Option Value ⊕ Nat) → xj_W → Nat → Nat → Prop), 203 + n ≤ D → (dk_c_all n).2.2.2.2.2.2.2.1 u1 u2 u3 S → (∀ v S9, (v, S9) = (fk_c_all n).2.2.2.2.2.2.2.1 u1 u2 u3 S → P (.inl none) (SH, S9, T) 0 0) → xj_E (xX L xs) D 63 2 [(0, .ref 0), (1, .int u1), (2, .int u2), (3, .int u3)] [] (SH, S, T) P) ∧
    (∀ (u1 : Int32) (u2 : Int32) (u3 : Int32) (u4 : Int32) S D (P : (Option Value ⊕ Nat) → xj_W → Nat → Nat → Prop), 203 + n ≤ D → (dk_c_all n).2.2.2.2.2.2.2.2.1 u1 u2 u3 u4 S → (∀ v S9, (v, S9) = (fk_c_all n).2.2.2.2.2.2.2.2.1 u1 u2 u3 u4 S → P (.inl none) (SH, S9, T) 0 0) → xj_E (xX L xs) D 64 11 [(0, .ref 0), (1, .int u1), (2, .int u2), (3, .int u3), (4, .int u4)] [] (SH, S, T) P) ∧
    (∀ (u1 : Int32) (u2 : Int32) (u3 : Int32) (u4 : Int32) (u5 : Int32) (u6 : Int32) S D (P : (Option Value ⊕ Nat) → xj_W → Nat → Nat → Prop), 203 + n ≤ D → (dk_c_all n).2.2.2.2.2.2.2.2.2 u1 u2 u3 u4 u5 u6 S → (∀ v S9, (v, S9) = (fk_c_all n).2.2.2.2.2.2.2.2.2 u1 u2 u3 u4 u5 u6 S → P (.inl none) (SH, S9, T) 0 0) → xj_E (xX L xs) D 65 12 [(0, .ref 0), (1, .int u1), (2, .int u2), (3, .int u3), (4, .int u4), (5, .int u5), (6, .int u6)] [] (SH, S, T) P) := by
  induction n with
  | zero => exact ⟨fun _ _ _ _ _ _ _ hd _ => hd.elim, fun _ _ _ _ _ _ _ hd _ => hd.elim, fun _ _ _ _ _ _ _ hd _ => hd.elim, fun _ _ _ _ _ _ hd _ => hd.elim, fun _ _ _ _ _ _ hd _ => hd.elim, fun _ _ _ _ _ _ _ _ hd _ => hd.elim, fun _ _ _ _ _ _ hd _ => hd.elim, fun _ _ _ _ _ _ _ hd _ => hd.elim, fun _ _ _ _ _ _ _ _ hd _ => hd.elim, fun _ _ _ _ _ _ _ _ _ _ hd _ => hd.elim⟩
  | succ n ih =>
    refine ⟨?_, ?_, ?_, ?_, ?_, ?_, ?_, ?_, ?_, ?_⟩
    · intro u1 u2 u3 S D P hD hd h
      obtain ⟨D1, rfl⟩ : ∃ D1, D = D1 + 1 := ⟨D - 1, by omega⟩
      refine xj_E.adv 3 (pc' := (if xj_cmp .ne (S 0 4) 0 = true then 19 else 7)) (ls' := [(0, .ref 0), (1, .int u1), (2, .int u2), (3, .int u3)]) (st' := []) (w' := (SH, S, T)) rfl ?_
      refine xj_E.b_ne (fun q => ?_) (fun q => ?_)
      · have hd := hd.1 q
        have h := fun v S9 e => h v S9 (Eq.trans e (if_pos q).symm)
        refine xj_E.adv 3 (pc' := 24) (ls' := [(0, .ref 0), (1, .int u1), (2, .int u2), (3, .int u3)]) (st' := []) (w' := (SH, (xj_set S 0 4 1), T)) rfl ?_
        exact xj_E.ret rfl rfl rfl rfl (h _ _ rfl)
      · have hd := hd.2 q
        have h := fun v S9 e => h v S9 (Eq.trans e (if_neg q).symm)
        refine xj_E.adv 5 (pc' := (if xj_cmp .ne (S 14 1) 40 = true then 25 else 19)) (ls' := [(0, .ref 0), (1, .int u1), (2, .int u2), (3, .int u3)]) (st' := []) (w' := (SH, S, T)) rfl ?_
        refine xj_E.b_ne (fun q => ?_) (fun q => ?_)
        · have hd := hd.1 q
          have h := fun v S9 e => h v S9 (Eq.trans e (if_pos q).symm)
          refine xj_E.adv 5 (pc' := 32) (ls' := [(0, .ref 0), (1, .int u1), (2, .int u2), (3, .int u3)]) (st' := [.int u2, .int u1, .ref 14, .ref 0]) (w' := (SH, S, T)) rfl ?_
          refine xj_E.calli (d := D1) (S := SH) rfl rfl rfl rfl rfl (ok_l_add (by omega) hd.1 ?_)
          intro v1 S1 e1
          refine ⟨_, _, _, rfl, rfl, rfl, rfl, ?_⟩
          have hd := hd.2
          rw [← e1] at hd h
          refine xj_E.adv 2 (pc' := 37) (ls' := [(0, .ref 0), (1, .int u1), (2, .int u2), (3, .int u3)]) (st' := [.int u3, .int 0, .int v1, .ref 0]) (w' := (SH, S1, T)) rfl ?_
          refine xj_E.callv (d := D1) (S := SH) rfl rfl rfl rfl rfl ((ih.2.1) _ _ _ _ _ _ (by omega) hd.1 ?_)
          intro v2 S2 e2
          refine ⟨_, _, rfl, rfl, rfl, rfl, ?_⟩
          have hd := hd.2
          rw [← e2] at hd h
          exact xj_E.ret rfl rfl rfl rfl (h _ _ rfl)
        · have hd := hd.2 q
          have h := fun v S9 e => h v S9 (Eq.trans e (if_neg q).symm)
          refine xj_E.adv 3 (pc' := 24) (ls' := [(0, .ref 0), (1, .int u1), (2, .int u2), (3, .int u3)]) (st' := []) (w' := (SH, (xj_set S 0 4 1), T)) rfl ?_
          exact xj_E.ret rfl rfl rfl rfl (h _ _ rfl)
    · intro u1 u2 u3 S D P hD hd h
      obtain ⟨D1, rfl⟩ : ∃ D1, D = D1 + 1 := ⟨D - 1, by omega⟩
      refine xj_E.adv 3 (pc' := (if xj_cmp .ne (S 0 4) 0 = true then 27 else 7)) (ls' := [(0, .ref 0), (1, .int u1), (2, .int u2), (3, .int u3)]) (st' := []) (w' := (SH, S, T)) rfl ?_
      refine xj_E.b_ne (fun q => ?_) (fun q => ?_)
      · have hd := hd.1 q
        have h := fun v S9 e => h v S9 (Eq.trans e (if_pos q).symm)
        refine xj_E.adv 3 (pc' := 32) (ls' := [(0, .ref 0), (1, .int u1), (2, .int u2), (3, .int u3)]) (st' := []) (w' := (SH, (xj_set S 0 4 1), T)) rfl ?_
        exact xj_E.ret rfl rfl rfl rfl (h _ _ rfl)
      · have hd := hd.2 q
        have h := fun v S9 e => h v S9 (Eq.trans e (if_neg q).symm)
        refine xj_E.adv 6 (pc' := (if xj_cmp .eq (S 0 3) (S 14 0) = true then 27 else 21)) (ls' := [(0, .ref 0), (1, .int u1), (2, .int u2), (3, .int u3)]) (st' := []) (w' := (SH, S, T)) rfl ?_
        refine xj_E.b_eq (fun q => ?_) (fun q => ?_)
        · have hd := hd.1 q
          have h := fun v S9 e => h v S9 (Eq.trans e (if_pos q).symm)
          refine xj_E.adv 3 (pc' := 32) (ls' := [(0, .ref 0), (1, .int u1), (2, .int u2), (3, .int u3)]) (st' := []) (w' := (SH, (xj_set S 0 4 1), T)) rfl ?_
          exact xj_E.ret rfl rfl rfl rfl (h _ _ rfl)
        · have hd := hd.2 q
          have h := fun v S9 e => h v S9 (Eq.trans e (if_neg q).symm)
          refine xj_E.adv 3 (pc' := (if xj_cmp .le u3 12 = true then 33 else 27)) (ls' := [(0, .ref 0), (1, .int u1), (2, .int u2), (3, .int u3)]) (st' := []) (w' := (SH, S, T)) rfl ?_
          refine xj_E.b_le (fun q => ?_) (fun q => ?_)
          · have hd := hd.1 q
            have h := fun v S9 e => h v S9 (Eq.trans e (if_pos q).symm)
            refine xj_E.adv 10 (pc' := 49) (ls' := [(0, .ref 0), (1, .int u1), (2, .int u2), (3, .int u3)]) (st' := [.int u2, .int u1, .ref 14]) (w' := (SH, (xj_set S 0 3 ((S 0 3) + 1)), T)) rfl ?_
            refine xj_E.callv (d := D1) (S := SH) rfl rfl rfl rfl rfl (ok_l_note (by omega) hd.1 ?_)
            intro v1 S1 e1
            refine ⟨_, _, rfl, rfl, rfl, rfl, ?_⟩
            have hd := hd.2
            rw [← e1] at hd h
            refine xj_E.adv 8 (pc' := 66) (ls' := [(0, .ref 0), (1, .int u1), (2, .int u2), (3, .int u3)]) (st' := [.int u1, .ref 15, .ref 1, .int u1, .ref 0]) (w' := (SH, S1, T)) rfl ?_
            refine xj_E.iald rfl rfl hd.1 ?_
            have hd := hd.2
            refine xj_E.adv 1 (pc' := 68) (ls' := [(0, .ref 0), (1, .int u1), (2, .int u2), (3, .int u3)]) (st' := [.int u2, .int (S1 15 u1.toNatClampNeg), .ref 1, .int u1, .ref 0]) (w' := (SH, S1, T)) rfl ?_
            refine xj_E.calli (d := D1) (S := SH) rfl rfl rfl rfl rfl (xj_E.deep (ok_p_partsHearing (d := 0) hd.1 ?_) (by omega))
            intro v e
            subst e
            refine ⟨_, _, _, rfl, rfl, rfl, rfl, ?_⟩
            have hd := hd.2
            refine xj_E.callv (d := D1) (S := SH) rfl rfl rfl rfl rfl (ok_c_markSiblings (by omega) hd.1 ?_)
            intro v2 S2 e2
            refine ⟨_, _, rfl, rfl, rfl, rfl, ?_⟩
            have hd := hd.2
            rw [← e2] at hd h
            refine xj_E.adv 7 (pc' := 89) (ls' := [(0, .ref 0), (1, .int u1), (2, .int u2), (3, .int u3)]) (st' := [.int u1, .ref 15, .ref 2]) (w' := (SH, S2, T)) rfl ?_
            refine xj_E.iald rfl rfl hd.1 ?_
            have hd := hd.2
            refine xj_E.iald rfl rfl hd.1 ?_
            have hd := hd.2
            refine xj_E.adv 1 (pc' := (if xj_cmp .ne (S2 2 (S2 15 u1.toNatClampNeg).toNatClampNeg) 0 = true then 103 else 94)) (ls' := [(0, .ref 0), (1, .int u1), (2, .int u2), (3, .int u3)]) (st' := []) (w' := (SH, S2, T)) rfl ?_
            refine xj_E.b_ne (fun q => ?_) (fun q => ?_)
            · have hd := hd.1 q
              have h := fun v S9 e => h v S9 (Eq.trans e (if_pos q).symm)
              refine xj_E.adv 3 (pc' := (if xj_cmp .eq u2 4 = true then 113 else 108)) (ls' := [(0, .ref 0), (1, .int u1), (2, .int u2), (3, .int u3)]) (st' := []) (w' := (SH, S2, T)) rfl ?_
              refine xj_E.b_eq (fun q => ?_) (fun q => ?_)
              · have hd := hd.1 q
                have h := fun v S9 e => h v S9 (Eq.trans e (if_pos q).symm)
                refine xj_E.adv 5 (pc' := 118) (ls' := [(0, .ref 0), (1, .int u1), (2, .int u2), (3, .int u3)]) (st' := [.int (u3 + 1), .int u1, .ref 0]) (w' := (SH, S2, T)) rfl ?_
                refine xj_E.callv (d := D1) (S := SH) rfl rfl rfl rfl rfl ((ih.2.2.2.2.2.2.1) _ _ _ _ _ (by omega) hd.1 ?_)
                intro v3 S3 e3
                refine ⟨_, _, rfl, rfl, rfl, rfl, ?_⟩
                have hd := hd.2
                rw [← e3] at hd h
                exact xj_E.ret rfl rfl rfl rfl (h _ _ rfl)
              · have hd := hd.2 q
                have h := fun v S9 e => h v S9 (Eq.trans e (if_neg q).symm)
                refine xj_E.adv 3 (pc' := (if xj_cmp .ne u2 3 = true then 121 else 113)) (ls' := [(0, .ref 0), (1, .int u1), (2, .int u2), (3, .int u3)]) (st' := []) (w' := (SH, S2, T)) rfl ?_
                refine xj_E.b_ne (fun q => ?_) (fun q => ?_)
                · have hd := hd.1 q
                  have h := fun v S9 e => h v S9 (Eq.trans e (if_pos q).symm)
                  exact xj_E.ret rfl rfl rfl rfl (h _ _ rfl)
                · have hd := hd.2 q
                  have h := fun v S9 e => h v S9 (Eq.trans e (if_neg q).symm)
                  refine xj_E.adv 5 (pc' := 118) (ls' := [(0, .ref 0), (1, .int u1), (2, .int u2), (3, .int u3)]) (st' := [.int (u3 + 1), .int u1, .ref 0]) (w' := (SH, S2, T)) rfl ?_
                  refine xj_E.callv (d := D1) (S := SH) rfl rfl rfl rfl rfl ((ih.2.2.2.2.2.2.1) _ _ _ _ _ (by omega) hd.1 ?_)
                  intro v4 S4 e4
                  refine ⟨_, _, rfl, rfl, rfl, rfl, ?_⟩
                  have hd := hd.2
                  rw [← e4] at hd h
                  exact xj_E.ret rfl rfl rfl rfl (h _ _ rfl)
            · have hd := hd.2 q
              have h := fun v S9 e => h v S9 (Eq.trans e (if_neg q).symm)
              refine xj_E.adv 6 (pc' := 100) (ls' := [(0, .ref 0), (1, .int u1), (2, .int u2), (3, .int u3)]) (st' := [.int (u3 + 1), .int u2, .int u1, .ref 0]) (w' := (SH, S2, T)) rfl ?_
              refine xj_E.callv (d := D1) (S := SH) rfl rfl rfl rfl rfl ((ih.2.2.1) _ _ _ _ _ _ (by omega) hd.1 ?_)
              intro v5 S5 e5
              refine ⟨_, _, rfl, rfl, rfl, rfl, ?_⟩
              have hd := hd.2
              rw [← e5] at hd h
              refine xj_E.adv 3 (pc' := (if xj_cmp .eq u2 4 = true then 113 else 108)) (ls' := [(0, .ref 0), (1, .int u1), (2, .int u2), (3, .int u3)]) (st' := []) (w' := (SH, S5, T)) rfl ?_
              refine xj_E.b_eq (fun q => ?_) (fun q => ?_)
              · have hd := hd.1 q
                have h := fun v S9 e => h v S9 (Eq.trans e (if_pos q).symm)
                refine xj_E.adv 5 (pc' := 118) (ls' := [(0, .ref 0), (1, .int u1), (2, .int u2), (3, .int u3)]) (st' := [.int (u3 + 1), .int u1, .ref 0]) (w' := (SH, S5, T)) rfl ?_
                refine xj_E.callv (d := D1) (S := SH) rfl rfl rfl rfl rfl ((ih.2.2.2.2.2.2.1) _ _ _ _ _ (by omega) hd.1 ?_)
                intro v6 S6 e6
                refine ⟨_, _, rfl, rfl, rfl, rfl, ?_⟩
                have hd := hd.2
                rw [← e6] at hd h
                exact xj_E.ret rfl rfl rfl rfl (h _ _ rfl)
              · have hd := hd.2 q
                have h := fun v S9 e => h v S9 (Eq.trans e (if_neg q).symm)
                refine xj_E.adv 3 (pc' := (if xj_cmp .ne u2 3 = true then 121 else 113)) (ls' := [(0, .ref 0), (1, .int u1), (2, .int u2), (3, .int u3)]) (st' := []) (w' := (SH, S5, T)) rfl ?_
                refine xj_E.b_ne (fun q => ?_) (fun q => ?_)
                · have hd := hd.1 q
                  have h := fun v S9 e => h v S9 (Eq.trans e (if_pos q).symm)
                  exact xj_E.ret rfl rfl rfl rfl (h _ _ rfl)
                · have hd := hd.2 q
                  have h := fun v S9 e => h v S9 (Eq.trans e (if_neg q).symm)
                  refine xj_E.adv 5 (pc' := 118) (ls' := [(0, .ref 0), (1, .int u1), (2, .int u2), (3, .int u3)]) (st' := [.int (u3 + 1), .int u1, .ref 0]) (w' := (SH, S5, T)) rfl ?_
                  refine xj_E.callv (d := D1) (S := SH) rfl rfl rfl rfl rfl ((ih.2.2.2.2.2.2.1) _ _ _ _ _ (by omega) hd.1 ?_)
                  intro v7 S7 e7
                  refine ⟨_, _, rfl, rfl, rfl, rfl, ?_⟩
                  have hd := hd.2
                  rw [← e7] at hd h
                  exact xj_E.ret rfl rfl rfl rfl (h _ _ rfl)
          · have hd := hd.2 q
            have h := fun v S9 e => h v S9 (Eq.trans e (if_neg q).symm)
            refine xj_E.adv 3 (pc' := 32) (ls' := [(0, .ref 0), (1, .int u1), (2, .int u2), (3, .int u3)]) (st' := []) (w' := (SH, (xj_set S 0 4 1), T)) rfl ?_
            exact xj_E.ret rfl rfl rfl rfl (h _ _ rfl)
    · intro u1 u2 u3 S D P hD hd h
      obtain ⟨D1, rfl⟩ : ∃ D1, D = D1 + 1 := ⟨D - 1, by omega⟩
      refine xj_E.adv 1 (pc' := 1) (ls' := [(0, .ref 0), (1, .int u1), (2, .int u2), (3, .int u3)]) (st' := [.int u2]) (w' := (SH, S, T)) rfl ?_
      by_cases q2 : u2 = 2
      · have hd := hd.1 q2
        have h := fun v S9 e => h v S9 (Eq.trans e (if_pos q2).symm)
        refine xj_E.swk q2 ?_
        refine xj_E.adv 1 (pc' := 48) (ls' := [(0, .ref 0), (1, .int u1), (2, .int u2), (3, .int u3)]) (st' := []) (w' := (SH, S, T)) rfl ?_
        refine xj_E.adv 3 (pc' := 51) (ls' := [(0, .ref 0), (1, .int u1), (2, .int u2), (3, .int u3)]) (st' := [.int u3, .int u1, .ref 0]) (w' := (SH, S, T)) rfl ?_
        refine xj_E.callv (d := D1) (S := SH) rfl rfl rfl rfl rfl ((ih.2.2.2.1) _ _ _ _ _ (by omega) hd.1 ?_)
        intro v1 S1 e1
        refine ⟨_, _, rfl, rfl, rfl, rfl, ?_⟩
        have hd := hd.2
        rw [← e1] at hd h
        refine xj_E.adv 1 (pc' := 89) (ls' := [(0, .ref 0), (1, .int u1), (2, .int u2), (3, .int u3)]) (st' := []) (w' := (SH, S1, T)) rfl ?_
        exact xj_E.ret rfl rfl rfl rfl (h _ _ rfl)
      · have hd := hd.2 q2
        have h := fun v S9 e => h v S9 (Eq.trans e (if_neg q2).symm)
        by_cases q3 : u2 = 3
        · have hd := hd.1 q3
          have h := fun v S9 e => h v S9 (Eq.trans e (if_pos q3).symm)
          refine xj_E.swk q3 ?_
          refine xj_E.adv 1 (pc' := 89) (ls' := [(0, .ref 0), (1, .int u1), (2, .int u2), (3, .int u3)]) (st' := []) (w' := (SH, S, T)) rfl ?_
          exact xj_E.ret rfl rfl rfl rfl (h _ _ rfl)
        · have hd := hd.2 q3
          have h := fun v S9 e => h v S9 (Eq.trans e (if_neg q3).symm)
          by_cases q4 : u2 = 4
          · have hd := hd.1 q4
            have h := fun v S9 e => h v S9 (Eq.trans e (if_pos q4).symm)
            refine xj_E.swk q4 ?_
            refine xj_E.adv 1 (pc' := 57) (ls' := [(0, .ref 0), (1, .int u1), (2, .int u2), (3, .int u3)]) (st' := []) (w' := (SH, S, T)) rfl ?_
            refine xj_E.adv 3 (pc' := 60) (ls' := [(0, .ref 0), (1, .int u1), (2, .int u2), (3, .int u3)]) (st' := [.int u3, .int u1, .ref 0]) (w' := (SH, S, T)) rfl ?_
            refine xj_E.callv (d := D1) (S := SH) rfl rfl rfl rfl rfl ((ih.2.2.2.2.1) _ _ _ _ _ (by omega) hd.1 ?_)
            intro v2 S2 e2
            refine ⟨_, _, rfl, rfl, rfl, rfl, ?_⟩
            have hd := hd.2
            rw [← e2] at hd h
            refine xj_E.adv 1 (pc' := 89) (ls' := [(0, .ref 0), (1, .int u1), (2, .int u2), (3, .int u3)]) (st' := []) (w' := (SH, S2, T)) rfl ?_
            exact xj_E.ret rfl rfl rfl rfl (h _ _ rfl)
          · have hd := hd.2 q4
            have h := fun v S9 e => h v S9 (Eq.trans e (if_neg q4).symm)
            by_cases q5 : u2 = 5
            · have hd := hd.1 q5
              have h := fun v S9 e => h v S9 (Eq.trans e (if_pos q5).symm)
              refine xj_E.swk q5 ?_
              refine xj_E.adv 1 (pc' := 66) (ls' := [(0, .ref 0), (1, .int u1), (2, .int u2), (3, .int u3)]) (st' := []) (w' := (SH, S, T)) rfl ?_
              refine xj_E.adv 5 (pc' := 71) (ls' := [(0, .ref 0), (1, .int u1), (2, .int u2), (3, .int u3)]) (st' := [.int u3, .int 5, .int 2, .int u1, .ref 0]) (w' := (SH, S, T)) rfl ?_
              refine xj_E.callv (d := D1) (S := SH) rfl rfl rfl rfl rfl ((ih.2.2.2.2.2.1) _ _ _ _ _ _ _ (by omega) hd.1 ?_)
              intro v3 S3 e3
              refine ⟨_, _, rfl, rfl, rfl, rfl, ?_⟩
              have hd := hd.2
              rw [← e3] at hd h
              refine xj_E.adv 1 (pc' := 89) (ls' := [(0, .ref 0), (1, .int u1), (2, .int u2), (3, .int u3)]) (st' := []) (w' := (SH, S3, T)) rfl ?_
              exact xj_E.ret rfl rfl rfl rfl (h _ _ rfl)
            · have hd := hd.2 q5
              have h := fun v S9 e => h v S9 (Eq.trans e (if_neg q5).symm)
              by_cases q6 : u2 = 6
              · have hd := hd.1 q6
                have h := fun v S9 e => h v S9 (Eq.trans e (if_pos q6).symm)
                refine xj_E.swk q6 ?_
                refine xj_E.adv 1 (pc' := 77) (ls' := [(0, .ref 0), (1, .int u1), (2, .int u2), (3, .int u3)]) (st' := []) (w' := (SH, S, T)) rfl ?_
                refine xj_E.adv 5 (pc' := 83) (ls' := [(0, .ref 0), (1, .int u1), (2, .int u2), (3, .int u3)]) (st' := [.int u3, .int 6, .int 3, .int u1, .ref 0]) (w' := (SH, S, T)) rfl ?_
                refine xj_E.callv (d := D1) (S := SH) rfl rfl rfl rfl rfl ((ih.2.2.2.2.2.1) _ _ _ _ _ _ _ (by omega) hd.1 ?_)
                intro v4 S4 e4
                refine ⟨_, _, rfl, rfl, rfl, rfl, ?_⟩
                have hd := hd.2
                rw [← e4] at hd h
                refine xj_E.adv 1 (pc' := 89) (ls' := [(0, .ref 0), (1, .int u1), (2, .int u2), (3, .int u3)]) (st' := []) (w' := (SH, S4, T)) rfl ?_
                exact xj_E.ret rfl rfl rfl rfl (h _ _ rfl)
              · have hd := hd.2 q6
                have h := fun v S9 e => h v S9 (Eq.trans e (if_neg q6).symm)
                by_cases q7 : u2 = 7
                · have hd := hd.1 q7
                  have h := fun v S9 e => h v S9 (Eq.trans e (if_pos q7).symm)
                  refine xj_E.swk q7 ?_
                  refine xj_E.adv 1 (pc' := 89) (ls' := [(0, .ref 0), (1, .int u1), (2, .int u2), (3, .int u3)]) (st' := []) (w' := (SH, S, T)) rfl ?_
                  exact xj_E.ret rfl rfl rfl rfl (h _ _ rfl)
                · have hd := hd.2 q7
                  have h := fun v S9 e => h v S9 (Eq.trans e (if_neg q7).symm)
                  by_cases q8 : u2 = 8
                  · have hd := hd.1 q8
                    have h := fun v S9 e => h v S9 (Eq.trans e (if_pos q8).symm)
                    refine xj_E.swk q8 ?_
                    refine xj_E.adv 1 (pc' := 89) (ls' := [(0, .ref 0), (1, .int u1), (2, .int u2), (3, .int u3)]) (st' := []) (w' := (SH, S, T)) rfl ?_
                    exact xj_E.ret rfl rfl rfl rfl (h _ _ rfl)
                  · have hd := hd.2 q8
                    have h := fun v S9 e => h v S9 (Eq.trans e (if_neg q8).symm)
                    by_cases q9 : u2 = 9
                    · have hd := hd.1 q9
                      have h := fun v S9 e => h v S9 (Eq.trans e (if_pos q9).symm)
                      refine xj_E.swk q9 ?_
                      refine xj_E.adv 1 (pc' := 57) (ls' := [(0, .ref 0), (1, .int u1), (2, .int u2), (3, .int u3)]) (st' := []) (w' := (SH, S, T)) rfl ?_
                      refine xj_E.adv 3 (pc' := 60) (ls' := [(0, .ref 0), (1, .int u1), (2, .int u2), (3, .int u3)]) (st' := [.int u3, .int u1, .ref 0]) (w' := (SH, S, T)) rfl ?_
                      refine xj_E.callv (d := D1) (S := SH) rfl rfl rfl rfl rfl ((ih.2.2.2.2.1) _ _ _ _ _ (by omega) hd.1 ?_)
                      intro v5 S5 e5
                      refine ⟨_, _, rfl, rfl, rfl, rfl, ?_⟩
                      have hd := hd.2
                      rw [← e5] at hd h
                      refine xj_E.adv 1 (pc' := 89) (ls' := [(0, .ref 0), (1, .int u1), (2, .int u2), (3, .int u3)]) (st' := []) (w' := (SH, S5, T)) rfl ?_
                      exact xj_E.ret rfl rfl rfl rfl (h _ _ rfl)
                    · have hd := hd.2 q9
                      have h := fun v S9 e => h v S9 (Eq.trans e (if_neg q9).symm)
                      refine xj_E.swt rfl (xj_swd (fun z z1 z2 => ?_)) rfl ?_
                      · have hz : z = 2 ∨ z = 3 ∨ z = 4 ∨ z = 5 ∨ z = 6 ∨ z = 7 ∨ z = 8 ∨ z = 9 := by omega
                        rcases hz with rfl | rfl | rfl | rfl | rfl | rfl | rfl | rfl
                        · exact fun e => q2 (e.trans (by decide))
                        · exact fun e => q3 (e.trans (by decide))
                        · exact fun e => q4 (e.trans (by decide))
                        · exact fun e => q5 (e.trans (by decide))
                        · exact fun e => q6 (e.trans (by decide))
                        · exact fun e => q7 (e.trans (by decide))
                        · exact fun e => q8 (e.trans (by decide))
                        · exact fun e => q9 (e.trans (by decide))
                      exact xj_E.ret rfl rfl rfl rfl (h _ _ rfl)
    · intro u1 u2 S D P hD hd h
      refine xj_E.adv 2 (pc' := 2) (ls' := [(3, .int 0), (0, .ref 0), (1, .int u1), (2, .int u2)]) (st' := []) (w' := (SH, S, T)) rfl ?_
      refine xj_E.loc [0, 1, 2, 3] xhth rfl (show xj_E (xX L xs) D 63 2 [(0, .ref 0), (1, .int u1), (2, .int u2), (3, .int 0)] [] (SH, S, T) P from ?_)
      exact (ih.2.2.2.2.2.2.2.1) _ _ _ _ _ _ (by omega) hd h
    · intro u1 u2 S D P hD hd h
      refine xj_E.adv 6 (pc' := 11) (ls' := [(4, .int 0), (3, .int (S 14 1)), (0, .ref 0), (1, .int u1), (2, .int u2)]) (st' := []) (w' := (SH, S, T)) rfl ?_
      refine xj_E.loc [0, 1, 2, 3, 4] xhth rfl (show xj_E (xX L xs) D 64 11 [(0, .ref 0), (1, .int u1), (2, .int u2), (3, .int (S 14 1)), (4, .int 0)] [] (SH, S, T) P from ?_)
      exact (ih.2.2.2.2.2.2.2.2.1) _ _ _ _ _ _ _ (by omega) hd h
    · intro u1 u2 u3 u4 S D P hD hd h
      refine xj_E.adv 6 (pc' := 12) (ls' := [(6, .int 0), (5, .int (S 14 1)), (0, .ref 0), (1, .int u1), (2, .int u2), (3, .int u3), (4, .int u4)]) (st' := []) (w' := (SH, S, T)) rfl ?_
      refine xj_E.loc [0, 1, 2, 3, 4, 5, 6] xhth rfl (show xj_E (xX L xs) D 65 12 [(0, .ref 0), (1, .int u1), (2, .int u2), (3, .int u3), (4, .int u4), (5, .int (S 14 1)), (6, .int 0)] [] (SH, S, T) P from ?_)
      exact (ih.2.2.2.2.2.2.2.2.2) _ _ _ _ _ _ _ _ _ (by omega) hd h
    · intro u1 u2 S D P hD hd h
      obtain ⟨D1, rfl⟩ : ∃ D1, D = D1 + 1 := ⟨D - 1, by omega⟩
      refine xj_E.adv 4 (pc' := 8) (ls' := [(0, .ref 0), (1, .int u1), (2, .int u2)]) (st' := [.int u1, .ref 15]) (w' := (SH, S, T)) rfl ?_
      refine xj_E.iald rfl rfl hd.1 ?_
      have hd := hd.2
      refine xj_E.adv 5 (pc' := 16) (ls' := [(3, .int (S 15 u1.toNatClampNeg)), (0, .ref 0), (1, .int u1), (2, .int u2)]) (st' := [.int 1, .int (S 15 u1.toNatClampNeg), .ref 1]) (w' := (SH, S, T)) rfl ?_
      refine xj_E.calli (d := D1) (S := SH) rfl rfl rfl rfl rfl (xj_E.deep (ok_p_hasFlag (d := 0) hd.1 ?_) (by omega))
      intro v e
      subst e
      refine ⟨_, _, _, rfl, rfl, rfl, rfl, ?_⟩
      have hd := hd.2
      refine xj_E.adv 1 (pc' := (if xj_cmp .eq (r_p_hasFlag S (S 15 u1.toNatClampNeg) 1) 0 = true then 56 else 22)) (ls' := [(3, .int (S 15 u1.toNatClampNeg)), (0, .ref 0), (1, .int u1), (2, .int u2)]) (st' := []) (w' := (SH, S, T)) rfl ?_
      refine xj_E.b_eq (fun q => ?_) (fun q => ?_)
      · have hd := hd.1 q
        have h := fun v S9 e => h v S9 (Eq.trans e (if_pos q).symm)
        exact xj_E.ret rfl rfl rfl rfl (h _ _ rfl)
      · have hd := hd.2 q
        have h := fun v S9 e => h v S9 (Eq.trans e (if_neg q).symm)
        refine xj_E.adv 3 (pc' := 27) (ls' := [(3, .int (S 15 u1.toNatClampNeg)), (0, .ref 0), (1, .int u1), (2, .int u2)]) (st' := [.int (S 15 u1.toNatClampNeg), .ref 1]) (w' := (SH, S, T)) rfl ?_
        refine xj_E.calli (d := D1) (S := SH) rfl rfl rfl rfl rfl (xj_E.deep (ok_p_hasEntry (d := 0) hd.1 ?_) (by omega))
        intro v e
        subst e
        refine ⟨_, _, _, rfl, rfl, rfl, rfl, ?_⟩
        have hd := hd.2
        refine xj_E.adv 1 (pc' := (if xj_cmp .ne (r_p_hasEntry S (S 15 u1.toNatClampNeg)) 0 = true then 56 else 33)) (ls' := [(3, .int (S 15 u1.toNatClampNeg)), (0, .ref 0), (1, .int u1), (2, .int u2)]) (st' := []) (w' := (SH, S, T)) rfl ?_
        refine xj_E.b_ne (fun q => ?_) (fun q => ?_)
        · have hd := hd.1 q
          have h := fun v S9 e => h v S9 (Eq.trans e (if_pos q).symm)
          exact xj_E.ret rfl rfl rfl rfl (h _ _ rfl)
        · have hd := hd.2 q
          have h := fun v S9 e => h v S9 (Eq.trans e (if_neg q).symm)
          refine xj_E.adv 2 (pc' := 35) (ls' := [(3, .int (S 15 u1.toNatClampNeg)), (0, .ref 0), (1, .int u1), (2, .int u2)]) (st' := [.int u1, .ref 0]) (w' := (SH, S, T)) rfl ?_
          refine xj_E.calli (d := D1) (S := SH) rfl rfl rfl rfl rfl (xj_E.deep (ok_c_parentLets (d := 0) hd.1 ?_) (by omega))
          intro v e
          subst e
          refine ⟨_, _, _, rfl, rfl, rfl, rfl, ?_⟩
          have hd := hd.2
          refine xj_E.adv 1 (pc' := (if xj_cmp .eq (r_c_parentLets S u1) 0 = true then 56 else 41)) (ls' := [(3, .int (S 15 u1.toNatClampNeg)), (0, .ref 0), (1, .int u1), (2, .int u2)]) (st' := []) (w' := (SH, S, T)) rfl ?_
          refine xj_E.b_eq (fun q => ?_) (fun q => ?_)
          · have hd := hd.1 q
            have h := fun v S9 e => h v S9 (Eq.trans e (if_pos q).symm)
            exact xj_E.ret rfl rfl rfl rfl (h _ _ rfl)
          · have hd := hd.2 q
            have h := fun v S9 e => h v S9 (Eq.trans e (if_neg q).symm)
            refine xj_E.adv 6 (pc' := 51) (ls' := [(3, .int (S 15 u1.toNatClampNeg)), (0, .ref 0), (1, .int u1), (2, .int u2)]) (st' := [.int u1, .ref 16, .int (S 15 u1.toNatClampNeg), .ref 0]) (w' := (SH, S, T)) rfl ?_
            refine xj_E.iald rfl rfl hd.1 ?_
            have hd := hd.2
            refine xj_E.adv 1 (pc' := 53) (ls' := [(3, .int (S 15 u1.toNatClampNeg)), (0, .ref 0), (1, .int u1), (2, .int u2)]) (st' := [.int u2, .int (S 16 u1.toNatClampNeg), .int (S 15 u1.toNatClampNeg), .ref 0]) (w' := (SH, S, T)) rfl ?_
            refine xj_E.callv (d := D1) (S := SH) rfl rfl rfl rfl rfl ((ih.1) _ _ _ _ _ _ (by omega) hd.1 ?_)
            intro v1 S1 e1
            refine ⟨_, _, rfl, rfl, rfl, rfl, ?_⟩
            have hd := hd.2
            rw [← e1] at hd h
            exact xj_E.ret rfl rfl rfl rfl (h _ _ rfl)
    · intro u1 u2 u3 S D P hD hd h
      obtain ⟨D1, rfl⟩ : ∃ D1, D = D1 + 1 := ⟨D - 1, by omega⟩
      refine xj_E.adv 5 (pc' := (if xj_cmp .ge u3 (S 1 0) = true then 47 else 13)) (ls' := [(0, .ref 0), (1, .int u1), (2, .int u2), (3, .int u3)]) (st' := []) (w' := (SH, S, T)) rfl ?_
      refine xj_E.b_ge (fun q => ?_) (fun q => ?_)
      · have hd := hd.1 q
        have h := fun v S9 e => h v S9 (Eq.trans e (if_pos q).symm)
        exact xj_E.ret rfl rfl rfl rfl (h _ _ rfl)
      · have hd := hd.2 q
        have h := fun v S9 e => h v S9 (Eq.trans e (if_neg q).symm)
        refine xj_E.adv 4 (pc' := 21) (ls' := [(0, .ref 0), (1, .int u1), (2, .int u2), (3, .int u3)]) (st' := [.int u3, .ref 3]) (w' := (SH, S, T)) rfl ?_
        refine xj_E.iald rfl rfl hd.1 ?_
        have hd := hd.2
        refine xj_E.adv 4 (pc' := 30) (ls' := [(0, .ref 0), (1, .int u1), (2, .int u2), (3, .int u3)]) (st' := [.int u1, .ref 15, .int (S 3 u3.toNatClampNeg)]) (w' := (SH, S, T)) rfl ?_
        refine xj_E.iald rfl rfl hd.1 ?_
        have hd := hd.2
        refine xj_E.adv 1 (pc' := (if xj_cmp .ne (S 3 u3.toNatClampNeg) (S 15 u1.toNatClampNeg) = true then 41 else 34)) (ls' := [(0, .ref 0), (1, .int u1), (2, .int u2), (3, .int u3)]) (st' := []) (w' := (SH, S, T)) rfl ?_
        refine xj_E.b_ne (fun q => ?_) (fun q => ?_)
        · have hd := hd.1 q
          have h := fun v S9 e => h v S9 (Eq.trans e (if_pos q).symm)
          refine xj_E.adv 2 (pc' := 2) (ls' := [(3, .int (u3 + 1)), (0, .ref 0), (1, .int u1), (2, .int u2)]) (st' := []) (w' := (SH, S, T)) rfl ?_
          refine xj_E.loc [0, 1, 2, 3] xhth rfl (show xj_E (xX L xs) (D1 + 1) 63 2 [(0, .ref 0), (1, .int u1), (2, .int u2), (3, .int (u3 + 1))] [] (SH, S, T) P from ?_)
          exact (ih.2.2.2.2.2.2.2.1) _ _ _ _ _ _ (by omega) hd h
        · have hd := hd.2 q
          have h := fun v S9 e => h v S9 (Eq.trans e (if_neg q).symm)
          refine xj_E.adv 4 (pc' := 38) (ls' := [(0, .ref 0), (1, .int u1), (2, .int u2), (3, .int u3)]) (st' := [.int u2, .int u1, .int u3, .ref 0]) (w' := (SH, S, T)) rfl ?_
          refine xj_E.callv (d := D1) (S := SH) rfl rfl rfl rfl rfl ((ih.1) _ _ _ _ _ _ (by omega) hd.1 ?_)
          intro v1 S1 e1
          refine ⟨_, _, rfl, rfl, rfl, rfl, ?_⟩
          have hd := hd.2
          rw [← e1] at hd h
          refine xj_E.adv 2 (pc' := 2) (ls' := [(3, .int (u3 + 1)), (0, .ref 0), (1, .int u1), (2, .int u2)]) (st' := []) (w' := (SH, S1, T)) rfl ?_
          refine xj_E.loc [0, 1, 2, 3] xhth rfl (show xj_E (xX L xs) (D1 + 1) 63 2 [(0, .ref 0), (1, .int u1), (2, .int u2), (3, .int (u3 + 1))] [] (SH, S1, T) P from ?_)
          exact (ih.2.2.2.2.2.2.2.1) _ _ _ _ _ _ (by omega) hd h
    · intro u1 u2 u3 u4 S D P hD hd h
      obtain ⟨D1, rfl⟩ : ∃ D1, D = D1 + 1 := ⟨D - 1, by omega⟩
      refine xj_E.adv 3 (pc' := (if xj_cmp .ge u4 u3 = true then 58 else 17)) (ls' := [(0, .ref 0), (1, .int u1), (2, .int u2), (3, .int u3), (4, .int u4)]) (st' := []) (w' := (SH, S, T)) rfl ?_
      refine xj_E.b_ge (fun q => ?_) (fun q => ?_)
      · have hd := hd.1 q
        have h := fun v S9 e => h v S9 (Eq.trans e (if_pos q).symm)
        exact xj_E.ret rfl rfl rfl rfl (h _ _ rfl)
      · have hd := hd.2 q
        have h := fun v S9 e => h v S9 (Eq.trans e (if_neg q).symm)
        refine xj_E.adv 4 (pc' := 26) (ls' := [(0, .ref 0), (1, .int u1), (2, .int u2), (3, .int u3), (4, .int u4)]) (st' := [.int u4, .ref 16]) (w' := (SH, S, T)) rfl ?_
        refine xj_E.iald rfl rfl hd.1 ?_
        have hd := hd.2
        refine xj_E.adv 2 (pc' := (if xj_cmp .ne (S 16 u4.toNatClampNeg) u1 = true then 52 else 31)) (ls' := [(0, .ref 0), (1, .int u1), (2, .int u2), (3, .int u3), (4, .int u4)]) (st' := []) (w' := (SH, S, T)) rfl ?_
        refine xj_E.b_ne (fun q => ?_) (fun q => ?_)
        · have hd := hd.1 q
          have h := fun v S9 e => h v S9 (Eq.trans e (if_pos q).symm)
          refine xj_E.adv 2 (pc' := 11) (ls' := [(4, .int (u4 + 1)), (0, .ref 0), (1, .int u1), (2, .int u2), (3, .int u3)]) (st' := []) (w' := (SH, S, T)) rfl ?_
          refine xj_E.loc [0, 1, 2, 3, 4] xhth rfl (show xj_E (xX L xs) (D1 + 1) 64 11 [(0, .ref 0), (1, .int u1), (2, .int u2), (3, .int u3), (4, .int (u4 + 1))] [] (SH, S, T) P from ?_)
          exact (ih.2.2.2.2.2.2.2.2.1) _ _ _ _ _ _ _ (by omega) hd h
        · have hd := hd.2 q
          have h := fun v S9 e => h v S9 (Eq.trans e (if_neg q).symm)
          refine xj_E.adv 3 (pc' := 37) (ls' := [(0, .ref 0), (1, .int u1), (2, .int u2), (3, .int u3), (4, .int u4)]) (st' := [.int u4, .ref 14]) (w' := (SH, S, T)) rfl ?_
          refine xj_E.calli (d := D1) (S := SH) rfl rfl rfl rfl rfl (xj_E.deep (ok_l_isFinal (d := 0) hd.1 ?_) (by omega))
          intro v e
          subst e
          refine ⟨_, _, _, rfl, rfl, rfl, rfl, ?_⟩
          have hd := hd.2
          refine xj_E.adv 1 (pc' := (if xj_cmp .ne (r_l_isFinal S u4) 0 = true then 52 else 43)) (ls' := [(0, .ref 0), (1, .int u1), (2, .int u2), (3, .int u3), (4, .int u4)]) (st' := []) (w' := (SH, S, T)) rfl ?_
          refine xj_E.b_ne (fun q => ?_) (fun q => ?_)
          · have hd := hd.1 q
            have h := fun v S9 e => h v S9 (Eq.trans e (if_pos q).symm)
            refine xj_E.adv 2 (pc' := 11) (ls' := [(4, .int (u4 + 1)), (0, .ref 0), (1, .int u1), (2, .int u2), (3, .int u3)]) (st' := []) (w' := (SH, S, T)) rfl ?_
            refine xj_E.loc [0, 1, 2, 3, 4] xhth rfl (show xj_E (xX L xs) (D1 + 1) 64 11 [(0, .ref 0), (1, .int u1), (2, .int u2), (3, .int u3), (4, .int (u4 + 1))] [] (SH, S, T) P from ?_)
            exact (ih.2.2.2.2.2.2.2.2.1) _ _ _ _ _ _ _ (by omega) hd h
          · have hd := hd.2 q
            have h := fun v S9 e => h v S9 (Eq.trans e (if_neg q).symm)
            refine xj_E.adv 4 (pc' := 49) (ls' := [(0, .ref 0), (1, .int u1), (2, .int u2), (3, .int u3), (4, .int u4)]) (st' := [.int u2, .int 9, .int u4, .ref 0]) (w' := (SH, S, T)) rfl ?_
            refine xj_E.callv (d := D1) (S := SH) rfl rfl rfl rfl rfl ((ih.2.1) _ _ _ _ _ _ (by omega) hd.1 ?_)
            intro v1 S1 e1
            refine ⟨_, _, rfl, rfl, rfl, rfl, ?_⟩
            have hd := hd.2
            rw [← e1] at hd h
            refine xj_E.adv 2 (pc' := 11) (ls' := [(4, .int (u4 + 1)), (0, .ref 0), (1, .int u1), (2, .int u2), (3, .int u3)]) (st' := []) (w' := (SH, S1, T)) rfl ?_
            refine xj_E.loc [0, 1, 2, 3, 4] xhth rfl (show xj_E (xX L xs) (D1 + 1) 64 11 [(0, .ref 0), (1, .int u1), (2, .int u2), (3, .int u3), (4, .int (u4 + 1))] [] (SH, S1, T) P from ?_)
            exact (ih.2.2.2.2.2.2.2.2.1) _ _ _ _ _ _ _ (by omega) hd h
    · intro u1 u2 u3 u4 u5 u6 S D P hD hd h
      obtain ⟨D1, rfl⟩ : ∃ D1, D = D1 + 1 := ⟨D - 1, by omega⟩
      refine xj_E.adv 3 (pc' := (if xj_cmp .ge u6 u5 = true then 62 else 19)) (ls' := [(0, .ref 0), (1, .int u1), (2, .int u2), (3, .int u3), (4, .int u4), (5, .int u5), (6, .int u6)]) (st' := []) (w' := (SH, S, T)) rfl ?_
      refine xj_E.b_ge (fun q => ?_) (fun q => ?_)
      · have hd := hd.1 q
        have h := fun v S9 e => h v S9 (Eq.trans e (if_pos q).symm)
        exact xj_E.ret rfl rfl rfl rfl (h _ _ rfl)
      · have hd := hd.2 q
        have h := fun v S9 e => h v S9 (Eq.trans e (if_neg q).symm)
        refine xj_E.adv 4 (pc' := 28) (ls' := [(0, .ref 0), (1, .int u1), (2, .int u2), (3, .int u3), (4, .int u4), (5, .int u5), (6, .int u6)]) (st' := [.int u6, .ref 16]) (w' := (SH, S, T)) rfl ?_
        refine xj_E.iald rfl rfl hd.1 ?_
        have hd := hd.2
        refine xj_E.adv 2 (pc' := (if xj_cmp .ne (S 16 u6.toNatClampNeg) u1 = true then 56 else 33)) (ls' := [(0, .ref 0), (1, .int u1), (2, .int u2), (3, .int u3), (4, .int u4), (5, .int u5), (6, .int u6)]) (st' := []) (w' := (SH, S, T)) rfl ?_
        refine xj_E.b_ne (fun q => ?_) (fun q => ?_)
        · have hd := hd.1 q
          have h := fun v S9 e => h v S9 (Eq.trans e (if_pos q).symm)
          refine xj_E.adv 2 (pc' := 12) (ls' := [(6, .int (u6 + 1)), (0, .ref 0), (1, .int u1), (2, .int u2), (3, .int u3), (4, .int u4), (5, .int u5)]) (st' := []) (w' := (SH, S, T)) rfl ?_
          refine xj_E.loc [0, 1, 2, 3, 4, 5, 6] xhth rfl (show xj_E (xX L xs) (D1 + 1) 65 12 [(0, .ref 0), (1, .int u1), (2, .int u2), (3, .int u3), (4, .int u4), (5, .int u5), (6, .int (u6 + 1))] [] (SH, S, T) P from ?_)
          exact (ih.2.2.2.2.2.2.2.2.2) _ _ _ _ _ _ _ _ _ (by omega) hd h
        · have hd := hd.2 q
          have h := fun v S9 e => h v S9 (Eq.trans e (if_neg q).symm)
          refine xj_E.adv 4 (pc' := 42) (ls' := [(0, .ref 0), (1, .int u1), (2, .int u2), (3, .int u3), (4, .int u4), (5, .int u5), (6, .int u6)]) (st' := [.int u6, .ref 17]) (w' := (SH, S, T)) rfl ?_
          refine xj_E.iald rfl rfl hd.1 ?_
          have hd := hd.2
          refine xj_E.adv 2 (pc' := (if xj_cmp .ne (S 17 u6.toNatClampNeg) u2 = true then 56 else 47)) (ls' := [(0, .ref 0), (1, .int u1), (2, .int u2), (3, .int u3), (4, .int u4), (5, .int u5), (6, .int u6)]) (st' := []) (w' := (SH, S, T)) rfl ?_
          refine xj_E.b_ne (fun q => ?_) (fun q => ?_)
          · have hd := hd.1 q
            have h := fun v S9 e => h v S9 (Eq.trans e (if_pos q).symm)
            refine xj_E.adv 2 (pc' := 12) (ls' := [(6, .int (u6 + 1)), (0, .ref 0), (1, .int u1), (2, .int u2), (3, .int u3), (4, .int u4), (5, .int u5)]) (st' := []) (w' := (SH, S, T)) rfl ?_
            refine xj_E.loc [0, 1, 2, 3, 4, 5, 6] xhth rfl (show xj_E (xX L xs) (D1 + 1) 65 12 [(0, .ref 0), (1, .int u1), (2, .int u2), (3, .int u3), (4, .int u4), (5, .int u5), (6, .int (u6 + 1))] [] (SH, S, T) P from ?_)
            exact (ih.2.2.2.2.2.2.2.2.2) _ _ _ _ _ _ _ _ _ (by omega) hd h
          · have hd := hd.2 q
            have h := fun v S9 e => h v S9 (Eq.trans e (if_neg q).symm)
            refine xj_E.adv 4 (pc' := 53) (ls' := [(0, .ref 0), (1, .int u1), (2, .int u2), (3, .int u3), (4, .int u4), (5, .int u5), (6, .int u6)]) (st' := [.int u4, .int u3, .int u6, .ref 0]) (w' := (SH, S, T)) rfl ?_
            refine xj_E.callv (d := D1) (S := SH) rfl rfl rfl rfl rfl ((ih.2.1) _ _ _ _ _ _ (by omega) hd.1 ?_)
            intro v1 S1 e1
            refine ⟨_, _, rfl, rfl, rfl, rfl, ?_⟩
            have hd := hd.2
            rw [← e1] at hd h
            refine xj_E.adv 2 (pc' := 12) (ls' := [(6, .int (u6 + 1)), (0, .ref 0), (1, .int u1), (2, .int u2), (3, .int u3), (4, .int u4), (5, .int u5)]) (st' := []) (w' := (SH, S1, T)) rfl ?_
            refine xj_E.loc [0, 1, 2, 3, 4, 5, 6] xhth rfl (show xj_E (xX L xs) (D1 + 1) 65 12 [(0, .ref 0), (1, .int u1), (2, .int u2), (3, .int u3), (4, .int u4), (5, .int u5), (6, .int (u6 + 1))] [] (SH, S1, T) P from ?_)
            exact (ih.2.2.2.2.2.2.2.2.2) _ _ _ _ _ _ _ _ _ (by omega) hd h
def f_c_create (a : Int32) (b : Int32) (c : Int32) (S : (Nat → Nat → Int32)) : Int32 × (Nat → Nat → Int32) := (fk_c_all 200).1 a b c S
def d_c_create (a : Int32) (b : Int32) (c : Int32) (S : (Nat → Nat → Int32)) : Prop := (dk_c_all 200).1 a b c S
seal f_c_create d_c_create
set_option maxHeartbeats 4000000 in
set_option maxRecDepth 100000 in
theorem ok_c_create {L : Nat} {xs : Nat → Int32} {T : Nat → Nat → Int64} {D : Nat} {S : (Nat → Nat → Int32)} {P : (Option Value ⊕ Nat) → xj_W → Nat → Nat → Prop} {a b c : Int32} (hD : 403 ≤ D) (hd : d_c_create a b c S) (h : ∀ v S9, (v, S9) = f_c_create a b c S → P (.inl none) (SH, S9, T) 0 0) : xj_E (xX L xs) D 57 0 [(0, .ref 0), (1, .int a), (2, .int b), (3, .int c)] [] (SH, S, T) P := by
  unfold d_c_create at hd
  unfold f_c_create at h
  exact (okk_c_all 200).1 _ _ _ _ _ _ hD hd h
def f_c_make (a : Int32) (b : Int32) (c : Int32) (S : (Nat → Nat → Int32)) : Int32 × (Nat → Nat → Int32) := (fk_c_all 200).2.1 a b c S
def d_c_make (a : Int32) (b : Int32) (c : Int32) (S : (Nat → Nat → Int32)) : Prop := (dk_c_all 200).2.1 a b c S
seal f_c_make d_c_make
set_option maxHeartbeats 4000000 in
set_option maxRecDepth 100000 in
theorem ok_c_make {L : Nat} {xs : Nat → Int32} {T : Nat → Nat → Int64} {D : Nat} {S : (Nat → Nat → Int32)} {P : (Option Value ⊕ Nat) → xj_W → Nat → Nat → Prop} {a b c : Int32} (hD : 403 ≤ D) (hd : d_c_make a b c S) (h : ∀ v S9, (v, S9) = f_c_make a b c S → P (.inl none) (SH, S9, T) 0 0) : xj_E (xX L xs) D 58 0 [(0, .ref 0), (1, .int a), (2, .int b), (3, .int c)] [] (SH, S, T) P := by
  unfold d_c_make at hd
  unfold f_c_make at h
  exact (okk_c_all 200).2.1 _ _ _ _ _ _ hD hd h
def f_c_moveWhatIsIn (a : Int32) (b : Int32) (c : Int32) (S : (Nat → Nat → Int32)) : Int32 × (Nat → Nat → Int32) := (fk_c_all 200).2.2.1 a b c S
def d_c_moveWhatIsIn (a : Int32) (b : Int32) (c : Int32) (S : (Nat → Nat → Int32)) : Prop := (dk_c_all 200).2.2.1 a b c S
seal f_c_moveWhatIsIn d_c_moveWhatIsIn
set_option maxHeartbeats 4000000 in
set_option maxRecDepth 100000 in
theorem ok_c_moveWhatIsIn {L : Nat} {xs : Nat → Int32} {T : Nat → Nat → Int64} {D : Nat} {S : (Nat → Nat → Int32)} {P : (Option Value ⊕ Nat) → xj_W → Nat → Nat → Prop} {a b c : Int32} (hD : 403 ≤ D) (hd : d_c_moveWhatIsIn a b c S) (h : ∀ v S9, (v, S9) = f_c_moveWhatIsIn a b c S → P (.inl none) (SH, S9, T) 0 0) : xj_E (xX L xs) D 62 0 [(0, .ref 0), (1, .int a), (2, .int b), (3, .int c)] [] (SH, S, T) P := by
  unfold d_c_moveWhatIsIn at hd
  unfold f_c_moveWhatIsIn at h
  exact (okk_c_all 200).2.2.1 _ _ _ _ _ _ hD hd h
def f_c_createWhatIsIn (a : Int32) (b : Int32) (S : (Nat → Nat → Int32)) : Int32 × (Nat → Nat → Int32) := (fk_c_all 200).2.2.2.1 a b S
def d_c_createWhatIsIn (a : Int32) (b : Int32) (S : (Nat → Nat → Int32)) : Prop := (dk_c_all 200).2.2.2.1 a b S
seal f_c_createWhatIsIn d_c_createWhatIsIn
set_option maxHeartbeats 4000000 in
set_option maxRecDepth 100000 in
theorem ok_c_createWhatIsIn {L : Nat} {xs : Nat → Int32} {T : Nat → Nat → Int64} {D : Nat} {S : (Nat → Nat → Int32)} {P : (Option Value ⊕ Nat) → xj_W → Nat → Nat → Prop} {a b : Int32} (hD : 403 ≤ D) (hd : d_c_createWhatIsIn a b S) (h : ∀ v S9, (v, S9) = f_c_createWhatIsIn a b S → P (.inl none) (SH, S9, T) 0 0) : xj_E (xX L xs) D 63 0 [(0, .ref 0), (1, .int a), (2, .int b)] [] (SH, S, T) P := by
  unfold d_c_createWhatIsIn at hd
  unfold f_c_createWhatIsIn at h
  exact (okk_c_all 200).2.2.2.1 _ _ _ _ _ hD hd h
def f_c_exitChildren (a : Int32) (b : Int32) (S : (Nat → Nat → Int32)) : Int32 × (Nat → Nat → Int32) := (fk_c_all 200).2.2.2.2.1 a b S
def d_c_exitChildren (a : Int32) (b : Int32) (S : (Nat → Nat → Int32)) : Prop := (dk_c_all 200).2.2.2.2.1 a b S
seal f_c_exitChildren d_c_exitChildren
set_option maxHeartbeats 4000000 in
set_option maxRecDepth 100000 in
theorem ok_c_exitChildren {L : Nat} {xs : Nat → Int32} {T : Nat → Nat → Int64} {D : Nat} {S : (Nat → Nat → Int32)} {P : (Option Value ⊕ Nat) → xj_W → Nat → Nat → Prop} {a b : Int32} (hD : 403 ≤ D) (hd : d_c_exitChildren a b S) (h : ∀ v S9, (v, S9) = f_c_exitChildren a b S → P (.inl none) (SH, S9, T) 0 0) : xj_E (xX L xs) D 64 0 [(0, .ref 0), (1, .int a), (2, .int b)] [] (SH, S, T) P := by
  unfold d_c_exitChildren at hd
  unfold f_c_exitChildren at h
  exact (okk_c_all 200).2.2.2.2.1 _ _ _ _ _ hD hd h
def f_c_moveChildren (a : Int32) (b : Int32) (c : Int32) (d : Int32) (S : (Nat → Nat → Int32)) : Int32 × (Nat → Nat → Int32) := (fk_c_all 200).2.2.2.2.2.1 a b c d S
def d_c_moveChildren (a : Int32) (b : Int32) (c : Int32) (d : Int32) (S : (Nat → Nat → Int32)) : Prop := (dk_c_all 200).2.2.2.2.2.1 a b c d S
seal f_c_moveChildren d_c_moveChildren
set_option maxHeartbeats 4000000 in
set_option maxRecDepth 100000 in
theorem ok_c_moveChildren {L : Nat} {xs : Nat → Int32} {T : Nat → Nat → Int64} {D : Nat} {S : (Nat → Nat → Int32)} {P : (Option Value ⊕ Nat) → xj_W → Nat → Nat → Prop} {a b c d : Int32} (hD : 403 ≤ D) (hd : d_c_moveChildren a b c d S) (h : ∀ v S9, (v, S9) = f_c_moveChildren a b c d S → P (.inl none) (SH, S9, T) 0 0) : xj_E (xX L xs) D 65 0 [(0, .ref 0), (1, .int a), (2, .int b), (3, .int c), (4, .int d)] [] (SH, S, T) P := by
  unfold d_c_moveChildren at hd
  unfold f_c_moveChildren at h
  exact (okk_c_all 200).2.2.2.2.2.1 _ _ _ _ _ _ _ hD hd h
def f_c_repeat (a : Int32) (b : Int32) (S : (Nat → Nat → Int32)) : Int32 × (Nat → Nat → Int32) := (fk_c_all 200).2.2.2.2.2.2.1 a b S
def d_c_repeat (a : Int32) (b : Int32) (S : (Nat → Nat → Int32)) : Prop := (dk_c_all 200).2.2.2.2.2.2.1 a b S
seal f_c_repeat d_c_repeat
set_option maxHeartbeats 4000000 in
set_option maxRecDepth 100000 in
theorem ok_c_repeat {L : Nat} {xs : Nat → Int32} {T : Nat → Nat → Int64} {D : Nat} {S : (Nat → Nat → Int32)} {P : (Option Value ⊕ Nat) → xj_W → Nat → Nat → Prop} {a b : Int32} (hD : 403 ≤ D) (hd : d_c_repeat a b S) (h : ∀ v S9, (v, S9) = f_c_repeat a b S → P (.inl none) (SH, S9, T) 0 0) : xj_E (xX L xs) D 66 0 [(0, .ref 0), (1, .int a), (2, .int b)] [] (SH, S, T) P := by
  unfold d_c_repeat at hd
  unfold f_c_repeat at h
  exact (okk_c_all 200).2.2.2.2.2.2.1 _ _ _ _ _ hD hd h
def f_c_letIn (a : Int32) (S : (Nat → Nat → Int32)) : Int32 × (Nat → Nat → Int32) := if (r_p_hasFlag S (S 15 a.toNatClampNeg) 1) = 0 then (if (S 2 (S 15 a.toNatClampNeg).toNatClampNeg) ≠ 2 then (if (r_p_hasFlag S (S 15 a.toNatClampNeg) 4) = 0 then (match f_c_make a 2 0 S with | (_, S1) => (0, S1)) else (match f_c_make a 1 0 S with | (_, S2) => (0, S2))) else (match f_c_make a 3 0 S with | (_, S3) => (0, S3))) else (if (r_p_hasEntry S (S 15 a.toNatClampNeg)) = 0 then (if (S 2 (S 15 a.toNatClampNeg).toNatClampNeg) ≠ 2 then (if (r_p_hasFlag S (S 15 a.toNatClampNeg) 4) = 0 then (match f_c_make a 2 0 S with | (_, S4) => (0, S4)) else (match f_c_make a 1 0 S with | (_, S5) => (0, S5))) else (match f_c_make a 3 0 S with | (_, S6) => (0, S6))) else (match f_c_create (S 15 a.toNatClampNeg) (S 16 a.toNatClampNeg) 0 S with | (_, S7) => if (S7 2 (S 15 a.toNatClampNeg).toNatClampNeg) ≠ 2 then (if (r_p_hasFlag S7 (S 15 a.toNatClampNeg) 4) = 0 then (match f_c_make a 2 0 S7 with | (_, S8) => (0, S8)) else (match f_c_make a 1 0 S7 with | (_, S9) => (0, S9))) else (match f_c_make a 3 0 S7 with | (_, S10) => (0, S10))))
def d_c_letIn (a : Int32) (S : (Nat → Nat → Int32)) : Prop := vp_in a 40 ∧ (d_p_hasFlag S (S 15 a.toNatClampNeg) 1 ∧ (((r_p_hasFlag S (S 15 a.toNatClampNeg) 1) = 0 → (vp_in (S 15 a.toNatClampNeg) 12 ∧ (((S 2 (S 15 a.toNatClampNeg).toNatClampNeg) ≠ 2 → (d_p_hasFlag S (S 15 a.toNatClampNeg) 4 ∧ (((r_p_hasFlag S (S 15 a.toNatClampNeg) 4) = 0 → (d_c_make a 2 0 S ∧ (match f_c_make a 2 0 S with | (_, S1) => True))) ∧ (¬ ((r_p_hasFlag S (S 15 a.toNatClampNeg) 4) = 0) → (d_c_make a 1 0 S ∧ (match f_c_make a 1 0 S with | (_, S2) => True)))))) ∧ (¬ ((S 2 (S 15 a.toNatClampNeg).toNatClampNeg) ≠ 2) → (d_c_make a 3 0 S ∧ (match f_c_make a 3 0 S with | (_, S3) => True)))))) ∧ (¬ ((r_p_hasFlag S (S 15 a.toNatClampNeg) 1) = 0) → (d_p_hasEntry S (S 15 a.toNatClampNeg) ∧ (((r_p_hasEntry S (S 15 a.toNatClampNeg)) = 0 → (vp_in (S 15 a.toNatClampNeg) 12 ∧ (((S 2 (S 15 a.toNatClampNeg).toNatClampNeg) ≠ 2 → (d_p_hasFlag S (S 15 a.toNatClampNeg) 4 ∧ (((r_p_hasFlag S (S 15 a.toNatClampNeg) 4) = 0 → (d_c_make a 2 0 S ∧ (match f_c_make a 2 0 S with | (_, S4) => True))) ∧ (¬ ((r_p_hasFlag S (S 15 a.toNatClampNeg) 4) = 0) → (d_c_make a 1 0 S ∧ (match f_c_make a 1 0 S with | (_, S5) => True)))))) ∧ (¬ ((S 2 (S 15 a.toNatClampNeg).toNatClampNeg) ≠ 2) → (d_c_make a 3 0 S ∧ (match f_c_make a 3 0 S with | (_, S6) => True)))))) ∧ (¬ ((r_p_hasEntry S (S 15 a.toNatClampNeg)) = 0) → (vp_in a 40 ∧ (d_c_create (S 15 a.toNatClampNeg) (S 16 a.toNatClampNeg) 0 S ∧ (match f_c_create (S 15 a.toNatClampNeg) (S 16 a.toNatClampNeg) 0 S with | (_, S7) => vp_in (S 15 a.toNatClampNeg) 12 ∧ (((S7 2 (S 15 a.toNatClampNeg).toNatClampNeg) ≠ 2 → (d_p_hasFlag S7 (S 15 a.toNatClampNeg) 4 ∧ (((r_p_hasFlag S7 (S 15 a.toNatClampNeg) 4) = 0 → (d_c_make a 2 0 S7 ∧ (match f_c_make a 2 0 S7 with | (_, S8) => True))) ∧ (¬ ((r_p_hasFlag S7 (S 15 a.toNatClampNeg) 4) = 0) → (d_c_make a 1 0 S7 ∧ (match f_c_make a 1 0 S7 with | (_, S9) => True)))))) ∧ (¬ ((S7 2 (S 15 a.toNatClampNeg).toNatClampNeg) ≠ 2) → (d_c_make a 3 0 S7 ∧ (match f_c_make a 3 0 S7 with | (_, S10) => True)))))))))))))
seal f_c_letIn d_c_letIn
set_option maxHeartbeats 4000000 in
set_option maxRecDepth 100000 in
theorem ok_c_letIn {L : Nat} {xs : Nat → Int32} {T : Nat → Nat → Int64} {D : Nat} {S : (Nat → Nat → Int32)} {P : (Option Value ⊕ Nat) → xj_W → Nat → Nat → Prop} {a : Int32} (hD : 404 ≤ D) (hd : d_c_letIn a S) (h : ∀ v S9, (v, S9) = f_c_letIn a S → P (.inl none) (SH, S9, T) 0 0) : xj_E (xX L xs) D 52 0 [(0, .ref 0), (1, .int a)] [] (SH, S, T) P := by
  unfold d_c_letIn at hd
  unfold f_c_letIn at h
  obtain ⟨D1, rfl⟩ : ∃ D1, D = D1 + 1 := ⟨D - 1, by omega⟩
  refine xj_E.adv 4 (pc' := 8) (ls' := [(0, .ref 0), (1, .int a)]) (st' := [.int a, .ref 15]) (w' := (SH, S, T)) rfl ?_
  refine xj_E.iald rfl rfl hd.1 ?_
  have hd := hd.2
  refine xj_E.adv 5 (pc' := 16) (ls' := [(2, .int (S 15 a.toNatClampNeg)), (0, .ref 0), (1, .int a)]) (st' := [.int 1, .int (S 15 a.toNatClampNeg), .ref 1]) (w' := (SH, S, T)) rfl ?_
  refine xj_E.calli (d := D1) (S := SH) rfl rfl rfl rfl rfl (xj_E.deep (ok_p_hasFlag (d := 0) hd.1 ?_) (by omega))
  intro v e
  subst e
  refine ⟨_, _, _, rfl, rfl, rfl, rfl, ?_⟩
  have hd := hd.2
  refine xj_E.adv 1 (pc' := (if xj_cmp .eq (r_p_hasFlag S (S 15 a.toNatClampNeg) 1) 0 = true then 48 else 22)) (ls' := [(2, .int (S 15 a.toNatClampNeg)), (0, .ref 0), (1, .int a)]) (st' := []) (w' := (SH, S, T)) rfl ?_
  refine xj_E.b_eq (fun q => ?_) (fun q => ?_)
  · have hd := hd.1 q
    have h := fun v S9 e => h v S9 (Eq.trans e (if_pos q).symm)
    refine xj_E.adv 4 (pc' := 56) (ls' := [(2, .int (S 15 a.toNatClampNeg)), (0, .ref 0), (1, .int a)]) (st' := [.int (S 15 a.toNatClampNeg), .ref 2]) (w' := (SH, S, T)) rfl ?_
    refine xj_E.iald rfl rfl hd.1 ?_
    have hd := hd.2
    refine xj_E.adv 2 (pc' := (if xj_cmp .ne (S 2 (S 15 a.toNatClampNeg).toNatClampNeg) 2 = true then 71 else 61)) (ls' := [(2, .int (S 15 a.toNatClampNeg)), (0, .ref 0), (1, .int a)]) (st' := []) (w' := (SH, S, T)) rfl ?_
    refine xj_E.b_ne (fun q => ?_) (fun q => ?_)
    · have hd := hd.1 q
      have h := fun v S9 e => h v S9 (Eq.trans e (if_pos q).symm)
      refine xj_E.adv 6 (pc' := 79) (ls' := [(2, .int (S 15 a.toNatClampNeg)), (0, .ref 0), (1, .int a)]) (st' := [.int 4, .int (S 15 a.toNatClampNeg), .ref 1, .int a, .ref 0]) (w' := (SH, S, T)) rfl ?_
      refine xj_E.calli (d := D1) (S := SH) rfl rfl rfl rfl rfl (xj_E.deep (ok_p_hasFlag (d := 0) hd.1 ?_) (by omega))
      intro v e
      subst e
      refine ⟨_, _, _, rfl, rfl, rfl, rfl, ?_⟩
      have hd := hd.2
      refine xj_E.adv 1 (pc' := (if xj_cmp .eq (r_p_hasFlag S (S 15 a.toNatClampNeg) 4) 0 = true then 89 else 85)) (ls' := [(2, .int (S 15 a.toNatClampNeg)), (0, .ref 0), (1, .int a)]) (st' := [.int a, .ref 0]) (w' := (SH, S, T)) rfl ?_
      refine xj_E.b_eq (fun q => ?_) (fun q => ?_)
      · have hd := hd.1 q
        have h := fun v S9 e => h v S9 (Eq.trans e (if_pos q).symm)
        refine xj_E.adv 2 (pc' := 91) (ls' := [(2, .int (S 15 a.toNatClampNeg)), (0, .ref 0), (1, .int a)]) (st' := [.int 0, .int 2, .int a, .ref 0]) (w' := (SH, S, T)) rfl ?_
        refine xj_E.callv (d := D1) (S := SH) rfl rfl rfl rfl rfl (ok_c_make (by omega) hd.1 ?_)
        intro v1 S1 e1
        refine ⟨_, _, rfl, rfl, rfl, rfl, ?_⟩
        have hd := hd.2
        rw [← e1] at hd h
        exact xj_E.ret rfl rfl rfl rfl (h _ _ rfl)
      · have hd := hd.2 q
        have h := fun v S9 e => h v S9 (Eq.trans e (if_neg q).symm)
        refine xj_E.adv 3 (pc' := 91) (ls' := [(2, .int (S 15 a.toNatClampNeg)), (0, .ref 0), (1, .int a)]) (st' := [.int 0, .int 1, .int a, .ref 0]) (w' := (SH, S, T)) rfl ?_
        refine xj_E.callv (d := D1) (S := SH) rfl rfl rfl rfl rfl (ok_c_make (by omega) hd.1 ?_)
        intro v2 S2 e2
        refine ⟨_, _, rfl, rfl, rfl, rfl, ?_⟩
        have hd := hd.2
        rw [← e2] at hd h
        exact xj_E.ret rfl rfl rfl rfl (h _ _ rfl)
    · have hd := hd.2 q
      have h := fun v S9 e => h v S9 (Eq.trans e (if_neg q).symm)
      refine xj_E.adv 4 (pc' := 65) (ls' := [(2, .int (S 15 a.toNatClampNeg)), (0, .ref 0), (1, .int a)]) (st' := [.int 0, .int 3, .int a, .ref 0]) (w' := (SH, S, T)) rfl ?_
      refine xj_E.callv (d := D1) (S := SH) rfl rfl rfl rfl rfl (ok_c_make (by omega) hd.1 ?_)
      intro v3 S3 e3
      refine ⟨_, _, rfl, rfl, rfl, rfl, ?_⟩
      have hd := hd.2
      rw [← e3] at hd h
      refine xj_E.adv 1 (pc' := 94) (ls' := [(2, .int (S 15 a.toNatClampNeg)), (0, .ref 0), (1, .int a)]) (st' := []) (w' := (SH, S3, T)) rfl ?_
      exact xj_E.ret rfl rfl rfl rfl (h _ _ rfl)
  · have hd := hd.2 q
    have h := fun v S9 e => h v S9 (Eq.trans e (if_neg q).symm)
    refine xj_E.adv 3 (pc' := 27) (ls' := [(2, .int (S 15 a.toNatClampNeg)), (0, .ref 0), (1, .int a)]) (st' := [.int (S 15 a.toNatClampNeg), .ref 1]) (w' := (SH, S, T)) rfl ?_
    refine xj_E.calli (d := D1) (S := SH) rfl rfl rfl rfl rfl (xj_E.deep (ok_p_hasEntry (d := 0) hd.1 ?_) (by omega))
    intro v e
    subst e
    refine ⟨_, _, _, rfl, rfl, rfl, rfl, ?_⟩
    have hd := hd.2
    refine xj_E.adv 1 (pc' := (if xj_cmp .eq (r_p_hasEntry S (S 15 a.toNatClampNeg)) 0 = true then 48 else 33)) (ls' := [(2, .int (S 15 a.toNatClampNeg)), (0, .ref 0), (1, .int a)]) (st' := []) (w' := (SH, S, T)) rfl ?_
    refine xj_E.b_eq (fun q => ?_) (fun q => ?_)
    · have hd := hd.1 q
      have h := fun v S9 e => h v S9 (Eq.trans e (if_pos q).symm)
      refine xj_E.adv 4 (pc' := 56) (ls' := [(2, .int (S 15 a.toNatClampNeg)), (0, .ref 0), (1, .int a)]) (st' := [.int (S 15 a.toNatClampNeg), .ref 2]) (w' := (SH, S, T)) rfl ?_
      refine xj_E.iald rfl rfl hd.1 ?_
      have hd := hd.2
      refine xj_E.adv 2 (pc' := (if xj_cmp .ne (S 2 (S 15 a.toNatClampNeg).toNatClampNeg) 2 = true then 71 else 61)) (ls' := [(2, .int (S 15 a.toNatClampNeg)), (0, .ref 0), (1, .int a)]) (st' := []) (w' := (SH, S, T)) rfl ?_
      refine xj_E.b_ne (fun q => ?_) (fun q => ?_)
      · have hd := hd.1 q
        have h := fun v S9 e => h v S9 (Eq.trans e (if_pos q).symm)
        refine xj_E.adv 6 (pc' := 79) (ls' := [(2, .int (S 15 a.toNatClampNeg)), (0, .ref 0), (1, .int a)]) (st' := [.int 4, .int (S 15 a.toNatClampNeg), .ref 1, .int a, .ref 0]) (w' := (SH, S, T)) rfl ?_
        refine xj_E.calli (d := D1) (S := SH) rfl rfl rfl rfl rfl (xj_E.deep (ok_p_hasFlag (d := 0) hd.1 ?_) (by omega))
        intro v e
        subst e
        refine ⟨_, _, _, rfl, rfl, rfl, rfl, ?_⟩
        have hd := hd.2
        refine xj_E.adv 1 (pc' := (if xj_cmp .eq (r_p_hasFlag S (S 15 a.toNatClampNeg) 4) 0 = true then 89 else 85)) (ls' := [(2, .int (S 15 a.toNatClampNeg)), (0, .ref 0), (1, .int a)]) (st' := [.int a, .ref 0]) (w' := (SH, S, T)) rfl ?_
        refine xj_E.b_eq (fun q => ?_) (fun q => ?_)
        · have hd := hd.1 q
          have h := fun v S9 e => h v S9 (Eq.trans e (if_pos q).symm)
          refine xj_E.adv 2 (pc' := 91) (ls' := [(2, .int (S 15 a.toNatClampNeg)), (0, .ref 0), (1, .int a)]) (st' := [.int 0, .int 2, .int a, .ref 0]) (w' := (SH, S, T)) rfl ?_
          refine xj_E.callv (d := D1) (S := SH) rfl rfl rfl rfl rfl (ok_c_make (by omega) hd.1 ?_)
          intro v4 S4 e4
          refine ⟨_, _, rfl, rfl, rfl, rfl, ?_⟩
          have hd := hd.2
          rw [← e4] at hd h
          exact xj_E.ret rfl rfl rfl rfl (h _ _ rfl)
        · have hd := hd.2 q
          have h := fun v S9 e => h v S9 (Eq.trans e (if_neg q).symm)
          refine xj_E.adv 3 (pc' := 91) (ls' := [(2, .int (S 15 a.toNatClampNeg)), (0, .ref 0), (1, .int a)]) (st' := [.int 0, .int 1, .int a, .ref 0]) (w' := (SH, S, T)) rfl ?_
          refine xj_E.callv (d := D1) (S := SH) rfl rfl rfl rfl rfl (ok_c_make (by omega) hd.1 ?_)
          intro v5 S5 e5
          refine ⟨_, _, rfl, rfl, rfl, rfl, ?_⟩
          have hd := hd.2
          rw [← e5] at hd h
          exact xj_E.ret rfl rfl rfl rfl (h _ _ rfl)
      · have hd := hd.2 q
        have h := fun v S9 e => h v S9 (Eq.trans e (if_neg q).symm)
        refine xj_E.adv 4 (pc' := 65) (ls' := [(2, .int (S 15 a.toNatClampNeg)), (0, .ref 0), (1, .int a)]) (st' := [.int 0, .int 3, .int a, .ref 0]) (w' := (SH, S, T)) rfl ?_
        refine xj_E.callv (d := D1) (S := SH) rfl rfl rfl rfl rfl (ok_c_make (by omega) hd.1 ?_)
        intro v6 S6 e6
        refine ⟨_, _, rfl, rfl, rfl, rfl, ?_⟩
        have hd := hd.2
        rw [← e6] at hd h
        refine xj_E.adv 1 (pc' := 94) (ls' := [(2, .int (S 15 a.toNatClampNeg)), (0, .ref 0), (1, .int a)]) (st' := []) (w' := (SH, S6, T)) rfl ?_
        exact xj_E.ret rfl rfl rfl rfl (h _ _ rfl)
    · have hd := hd.2 q
      have h := fun v S9 e => h v S9 (Eq.trans e (if_neg q).symm)
      refine xj_E.adv 6 (pc' := 43) (ls' := [(2, .int (S 15 a.toNatClampNeg)), (0, .ref 0), (1, .int a)]) (st' := [.int a, .ref 16, .int (S 15 a.toNatClampNeg), .ref 0]) (w' := (SH, S, T)) rfl ?_
      refine xj_E.iald rfl rfl hd.1 ?_
      have hd := hd.2
      refine xj_E.adv 1 (pc' := 45) (ls' := [(2, .int (S 15 a.toNatClampNeg)), (0, .ref 0), (1, .int a)]) (st' := [.int 0, .int (S 16 a.toNatClampNeg), .int (S 15 a.toNatClampNeg), .ref 0]) (w' := (SH, S, T)) rfl ?_
      refine xj_E.callv (d := D1) (S := SH) rfl rfl rfl rfl rfl (ok_c_create (by omega) hd.1 ?_)
      intro v7 S7 e7
      refine ⟨_, _, rfl, rfl, rfl, rfl, ?_⟩
      have hd := hd.2
      rw [← e7] at hd h
      refine xj_E.adv 4 (pc' := 56) (ls' := [(2, .int (S 15 a.toNatClampNeg)), (0, .ref 0), (1, .int a)]) (st' := [.int (S 15 a.toNatClampNeg), .ref 2]) (w' := (SH, S7, T)) rfl ?_
      refine xj_E.iald rfl rfl hd.1 ?_
      have hd := hd.2
      refine xj_E.adv 2 (pc' := (if xj_cmp .ne (S7 2 (S 15 a.toNatClampNeg).toNatClampNeg) 2 = true then 71 else 61)) (ls' := [(2, .int (S 15 a.toNatClampNeg)), (0, .ref 0), (1, .int a)]) (st' := []) (w' := (SH, S7, T)) rfl ?_
      refine xj_E.b_ne (fun q => ?_) (fun q => ?_)
      · have hd := hd.1 q
        have h := fun v S9 e => h v S9 (Eq.trans e (if_pos q).symm)
        refine xj_E.adv 6 (pc' := 79) (ls' := [(2, .int (S 15 a.toNatClampNeg)), (0, .ref 0), (1, .int a)]) (st' := [.int 4, .int (S 15 a.toNatClampNeg), .ref 1, .int a, .ref 0]) (w' := (SH, S7, T)) rfl ?_
        refine xj_E.calli (d := D1) (S := SH) rfl rfl rfl rfl rfl (xj_E.deep (ok_p_hasFlag (d := 0) hd.1 ?_) (by omega))
        intro v e
        subst e
        refine ⟨_, _, _, rfl, rfl, rfl, rfl, ?_⟩
        have hd := hd.2
        refine xj_E.adv 1 (pc' := (if xj_cmp .eq (r_p_hasFlag S7 (S 15 a.toNatClampNeg) 4) 0 = true then 89 else 85)) (ls' := [(2, .int (S 15 a.toNatClampNeg)), (0, .ref 0), (1, .int a)]) (st' := [.int a, .ref 0]) (w' := (SH, S7, T)) rfl ?_
        refine xj_E.b_eq (fun q => ?_) (fun q => ?_)
        · have hd := hd.1 q
          have h := fun v S9 e => h v S9 (Eq.trans e (if_pos q).symm)
          refine xj_E.adv 2 (pc' := 91) (ls' := [(2, .int (S 15 a.toNatClampNeg)), (0, .ref 0), (1, .int a)]) (st' := [.int 0, .int 2, .int a, .ref 0]) (w' := (SH, S7, T)) rfl ?_
          refine xj_E.callv (d := D1) (S := SH) rfl rfl rfl rfl rfl (ok_c_make (by omega) hd.1 ?_)
          intro v8 S8 e8
          refine ⟨_, _, rfl, rfl, rfl, rfl, ?_⟩
          have hd := hd.2
          rw [← e8] at hd h
          exact xj_E.ret rfl rfl rfl rfl (h _ _ rfl)
        · have hd := hd.2 q
          have h := fun v S9 e => h v S9 (Eq.trans e (if_neg q).symm)
          refine xj_E.adv 3 (pc' := 91) (ls' := [(2, .int (S 15 a.toNatClampNeg)), (0, .ref 0), (1, .int a)]) (st' := [.int 0, .int 1, .int a, .ref 0]) (w' := (SH, S7, T)) rfl ?_
          refine xj_E.callv (d := D1) (S := SH) rfl rfl rfl rfl rfl (ok_c_make (by omega) hd.1 ?_)
          intro v9 S9 e9
          refine ⟨_, _, rfl, rfl, rfl, rfl, ?_⟩
          have hd := hd.2
          rw [← e9] at hd h
          exact xj_E.ret rfl rfl rfl rfl (h _ _ rfl)
      · have hd := hd.2 q
        have h := fun v S9 e => h v S9 (Eq.trans e (if_neg q).symm)
        refine xj_E.adv 4 (pc' := 65) (ls' := [(2, .int (S 15 a.toNatClampNeg)), (0, .ref 0), (1, .int a)]) (st' := [.int 0, .int 3, .int a, .ref 0]) (w' := (SH, S7, T)) rfl ?_
        refine xj_E.callv (d := D1) (S := SH) rfl rfl rfl rfl rfl (ok_c_make (by omega) hd.1 ?_)
        intro v10 S10 e10
        refine ⟨_, _, rfl, rfl, rfl, rfl, ?_⟩
        have hd := hd.2
        rw [← e10] at hd h
        refine xj_E.adv 1 (pc' := 94) (ls' := [(2, .int (S 15 a.toNatClampNeg)), (0, .ref 0), (1, .int a)]) (st' := []) (w' := (SH, S10, T)) rfl ?_
        exact xj_E.ret rfl rfl rfl rfl (h _ _ rfl)
