/-! a method that stores: our machine does so -/
set_option maxHeartbeats 4000000 in
set_option maxRecDepth 100000 in
theorem ok_m_marked {L : Nat} {xs : Nat → Int32} {T : Nat → Nat → Int64} {D : Nat} {S : (Nat → Nat → Int32)} {P : (Option Value ⊕ Nat) → xj_W → Nat → Nat → Prop} {a b c : Int32} (hD : 1 ≤ D) (hd : d_m_marked a b c S) (h : ∀ v S9, (v, S9) = f_m_marked a b c S → P (.inl (some (.int v))) (SH, S9, T) 0 0) : xj_E (xX L xs) D 111 0 [(0, .ref 32), (1, .int a), (2, .int b), (3, .int c)] [] (SH, S, T) P := by
  unfold d_m_marked at hd
  unfold f_m_marked at h
  obtain ⟨D1, rfl⟩ : ∃ D1, D = D1 + 1 := ⟨D - 1, by omega⟩
  refine xj_E.adv 5 (pc' := (if xj_cmp .lt a 0 = true then 39 else 9)) (ls' := [(0, .ref 32), (1, .int a), (2, .int b), (3, .int c)]) (st' := []) (w' := (SH, (xj_set S 32 0 0), T)) rfl ?_
  refine xj_E.b_lt (fun q => ?_) (fun q => ?_)
  · have hd := hd.1 q
    have h := fun v S9 e => h v S9 (Eq.trans e (if_pos q).symm)
    refine xj_E.adv 1 (pc' := 40) (ls' := [(0, .ref 32), (1, .int a), (2, .int b), (3, .int c)]) (st' := [.int 0]) (w' := (SH, (xj_set S 32 0 0), T)) rfl ?_
    exact xj_E.ret rfl rfl rfl rfl (h _ _ rfl)
  · have hd := hd.2 q
    have h := fun v S9 e => h v S9 (Eq.trans e (if_neg q).symm)
    refine xj_E.adv 4 (pc' := (if xj_cmp .ge a (S 32 17) = true then 39 else 17)) (ls' := [(0, .ref 32), (1, .int a), (2, .int b), (3, .int c)]) (st' := []) (w' := (SH, (xj_set S 32 0 0), T)) rfl ?_
    refine xj_E.b_ge (fun q => ?_) (fun q => ?_)
    · have hd := hd.1 q
      have h := fun v S9 e => h v S9 (Eq.trans e (if_pos q).symm)
      refine xj_E.adv 1 (pc' := 40) (ls' := [(0, .ref 32), (1, .int a), (2, .int b), (3, .int c)]) (st' := [.int 0]) (w' := (SH, (xj_set S 32 0 0), T)) rfl ?_
      exact xj_E.ret rfl rfl rfl rfl (h _ _ rfl)
    · have hd := hd.2 q
      have h := fun v S9 e => h v S9 (Eq.trans e (if_neg q).symm)
      refine xj_E.adv 2 (pc' := 19) (ls' := [(0, .ref 32), (1, .int a), (2, .int b), (3, .int c)]) (st' := [.int b, .ref 32]) (w' := (SH, (xj_set S 32 0 0), T)) rfl ?_
      refine xj_E.calli (d := D1) (S := SH) rfl rfl rfl rfl rfl (xj_E.deep (ok_m_isSentry (d := 0) hd.1 ?_) (by omega))
      intro w1 f1
      refine ⟨_, _, _, rfl, rfl, rfl, rfl, ?_⟩
      have hd := hd.2
      rw [← f1] at hd
      have h : ∀ v S9, (v, S9) = ((if (r_m_isSentry (xj_set S 32 0 0) b) = 0 then ((0, (xj_set S 32 0 0))) else (if c < 0 then ((0, (xj_set S 32 0 0))) else (if c < (S 38 b.toNatClampNeg) then (if (r_m_isFinal (xj_set S 32 0 0) a) ≠ 0 then ((0, (xj_set S 32 0 0))) else (if (S 36 b.toNatClampNeg) ≠ (S 45 a.toNatClampNeg) then ((0, (xj_set S 32 0 0))) else (if (((S 49 a.toNatClampNeg) >>> (((2 * b) + c) &&& 31)) &&& 1) ≠ 1 then ((0, (xj_set S 32 0 0))) else ((1, (xj_set S 32 0 0)))))) else ((0, (xj_set S 32 0 0)))))) : Int32 × (Nat → Nat → Int32)) → P (.inl (some (.int v))) (SH, S9, T) 0 0 := h
      rw [← f1] at h
      refine xj_E.adv 1 (pc' := (if xj_cmp .eq w1 0 = true then 39 else 25)) (ls' := [(0, .ref 32), (1, .int a), (2, .int b), (3, .int c)]) (st' := []) (w' := (SH, (xj_set S 32 0 0), T)) rfl ?_
      refine xj_E.b_eq (fun q => ?_) (fun q => ?_)
      · have hd := hd.1 q
        have h := fun v S9 e => h v S9 (Eq.trans e (if_pos q).symm)
        refine xj_E.adv 1 (pc' := 40) (ls' := [(0, .ref 32), (1, .int a), (2, .int b), (3, .int c)]) (st' := [.int 0]) (w' := (SH, (xj_set S 32 0 0), T)) rfl ?_
        exact xj_E.ret rfl rfl rfl rfl (h _ _ rfl)
      · have hd := hd.2 q
        have h := fun v S9 e => h v S9 (Eq.trans e (if_neg q).symm)
        refine xj_E.adv 2 (pc' := (if xj_cmp .lt c 0 = true then 39 else 29)) (ls' := [(0, .ref 32), (1, .int a), (2, .int b), (3, .int c)]) (st' := []) (w' := (SH, (xj_set S 32 0 0), T)) rfl ?_
        refine xj_E.b_lt (fun q => ?_) (fun q => ?_)
        · have hd := hd.1 q
          have h := fun v S9 e => h v S9 (Eq.trans e (if_pos q).symm)
          refine xj_E.adv 1 (pc' := 40) (ls' := [(0, .ref 32), (1, .int a), (2, .int b), (3, .int c)]) (st' := [.int 0]) (w' := (SH, (xj_set S 32 0 0), T)) rfl ?_
          exact xj_E.ret rfl rfl rfl rfl (h _ _ rfl)
        · have hd := hd.2 q
          have h := fun v S9 e => h v S9 (Eq.trans e (if_neg q).symm)
          refine xj_E.adv 4 (pc' := 35) (ls' := [(0, .ref 32), (1, .int a), (2, .int b), (3, .int c)]) (st' := [.int b, .ref 38, .int c]) (w' := (SH, (xj_set S 32 0 0), T)) rfl ?_
          refine xj_E.iald rfl rfl hd.1 ?_
          have hd := hd.2
          refine xj_E.adv 1 (pc' := (if xj_cmp .lt c (S 38 b.toNatClampNeg) = true then 41 else 39)) (ls' := [(0, .ref 32), (1, .int a), (2, .int b), (3, .int c)]) (st' := []) (w' := (SH, (xj_set S 32 0 0), T)) rfl ?_
          refine xj_E.b_lt (fun q => ?_) (fun q => ?_)
          · have hd := hd.1 q
            have h := fun v S9 e => h v S9 (Eq.trans e (if_pos q).symm)
            refine xj_E.adv 2 (pc' := 43) (ls' := [(0, .ref 32), (1, .int a), (2, .int b), (3, .int c)]) (st' := [.int a, .ref 32]) (w' := (SH, (xj_set S 32 0 0), T)) rfl ?_
            refine xj_E.calli (d := D1) (S := SH) rfl rfl rfl rfl rfl (xj_E.deep (ok_m_isFinal (d := 0) hd.1 ?_) (by omega))
            intro w2 f2
            refine ⟨_, _, _, rfl, rfl, rfl, rfl, ?_⟩
            have hd := hd.2
            rw [← f2] at hd
            have h : ∀ v S9, (v, S9) = ((if (r_m_isFinal (xj_set S 32 0 0) a) ≠ 0 then ((0, (xj_set S 32 0 0))) else (if (S 36 b.toNatClampNeg) ≠ (S 45 a.toNatClampNeg) then ((0, (xj_set S 32 0 0))) else (if (((S 49 a.toNatClampNeg) >>> (((2 * b) + c) &&& 31)) &&& 1) ≠ 1 then ((0, (xj_set S 32 0 0))) else ((1, (xj_set S 32 0 0)))))) : Int32 × (Nat → Nat → Int32)) → P (.inl (some (.int v))) (SH, S9, T) 0 0 := h
            rw [← f2] at h
            refine xj_E.adv 1 (pc' := (if xj_cmp .ne w2 0 = true then 86 else 49)) (ls' := [(0, .ref 32), (1, .int a), (2, .int b), (3, .int c)]) (st' := []) (w' := (SH, (xj_set S 32 0 0), T)) rfl ?_
            refine xj_E.b_ne (fun q => ?_) (fun q => ?_)
            · have hd := hd.1 q
              have h := fun v S9 e => h v S9 (Eq.trans e (if_pos q).symm)
              refine xj_E.adv 1 (pc' := 87) (ls' := [(0, .ref 32), (1, .int a), (2, .int b), (3, .int c)]) (st' := [.int 0]) (w' := (SH, (xj_set S 32 0 0), T)) rfl ?_
              exact xj_E.ret rfl rfl rfl rfl (h _ _ rfl)
            · have hd := hd.2 q
              have h := fun v S9 e => h v S9 (Eq.trans e (if_neg q).symm)
              refine xj_E.adv 3 (pc' := 54) (ls' := [(0, .ref 32), (1, .int a), (2, .int b), (3, .int c)]) (st' := [.int b, .ref 36]) (w' := (SH, (xj_set S 32 0 0), T)) rfl ?_
              refine xj_E.iald rfl rfl hd.1 ?_
              have hd := hd.2
              refine xj_E.adv 3 (pc' := 60) (ls' := [(0, .ref 32), (1, .int a), (2, .int b), (3, .int c)]) (st' := [.int a, .ref 45, .int (S 36 b.toNatClampNeg)]) (w' := (SH, (xj_set S 32 0 0), T)) rfl ?_
              refine xj_E.iald rfl rfl hd.1 ?_
              have hd := hd.2
              refine xj_E.adv 1 (pc' := (if xj_cmp .ne (S 36 b.toNatClampNeg) (S 45 a.toNatClampNeg) = true then 86 else 64)) (ls' := [(0, .ref 32), (1, .int a), (2, .int b), (3, .int c)]) (st' := []) (w' := (SH, (xj_set S 32 0 0), T)) rfl ?_
              refine xj_E.b_ne (fun q => ?_) (fun q => ?_)
              · have hd := hd.1 q
                have h := fun v S9 e => h v S9 (Eq.trans e (if_pos q).symm)
                refine xj_E.adv 1 (pc' := 87) (ls' := [(0, .ref 32), (1, .int a), (2, .int b), (3, .int c)]) (st' := [.int 0]) (w' := (SH, (xj_set S 32 0 0), T)) rfl ?_
                exact xj_E.ret rfl rfl rfl rfl (h _ _ rfl)
              · have hd := hd.2 q
                have h := fun v S9 e => h v S9 (Eq.trans e (if_neg q).symm)
                refine xj_E.adv 3 (pc' := 69) (ls' := [(0, .ref 32), (1, .int a), (2, .int b), (3, .int c)]) (st' := [.int a, .ref 49]) (w' := (SH, (xj_set S 32 0 0), T)) rfl ?_
                refine xj_E.iald rfl rfl hd.1 ?_
                have hd := hd.2
                refine xj_E.adv 10 (pc' := (if xj_cmp .ne (((S 49 a.toNatClampNeg) >>> (((2 * b) + c) &&& 31)) &&& 1) 1 = true then 86 else 82)) (ls' := [(0, .ref 32), (1, .int a), (2, .int b), (3, .int c)]) (st' := []) (w' := (SH, (xj_set S 32 0 0), T)) rfl ?_
                refine xj_E.b_ne (fun q => ?_) (fun q => ?_)
                · have hd := hd.1 q
                  have h := fun v S9 e => h v S9 (Eq.trans e (if_pos q).symm)
                  refine xj_E.adv 1 (pc' := 87) (ls' := [(0, .ref 32), (1, .int a), (2, .int b), (3, .int c)]) (st' := [.int 0]) (w' := (SH, (xj_set S 32 0 0), T)) rfl ?_
                  exact xj_E.ret rfl rfl rfl rfl (h _ _ rfl)
                · have hd := hd.2 q
                  have h := fun v S9 e => h v S9 (Eq.trans e (if_neg q).symm)
                  refine xj_E.adv 2 (pc' := 87) (ls' := [(0, .ref 32), (1, .int a), (2, .int b), (3, .int c)]) (st' := [.int 1]) (w' := (SH, (xj_set S 32 0 0), T)) rfl ?_
                  exact xj_E.ret rfl rfl rfl rfl (h _ _ rfl)
          · have hd := hd.2 q
            have h := fun v S9 e => h v S9 (Eq.trans e (if_neg q).symm)
            refine xj_E.adv 1 (pc' := 40) (ls' := [(0, .ref 32), (1, .int a), (2, .int b), (3, .int c)]) (st' := [.int 0]) (w' := (SH, (xj_set S 32 0 0), T)) rfl ?_
            exact xj_E.ret rfl rfl rfl rfl (h _ _ rfl)
