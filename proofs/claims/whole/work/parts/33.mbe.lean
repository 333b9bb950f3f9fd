/-! a method that stores: our machine does so -/
set_option maxHeartbeats 4000000 in
set_option maxRecDepth 100000 in
theorem ok_m_instance {L : Nat} {xs : Nat → Int32} {T : Nat → Nat → Int64} {D : Nat} {S : (Nat → Nat → Int32)} {P : (Option Value ⊕ Nat) → xj_W → Nat → Nat → Prop} {a b : Int32} (hD : 0 ≤ D) (hd : d_m_instance a b S) (h : ∀ v S9, (v, S9) = f_m_instance a b S → P (.inl (some (.int v))) (SH, S9, T) 0 0) : xj_E (xX L xs) D 110 0 [(0, .ref 32), (1, .int a), (2, .int b)] [] (SH, S, T) P := by
  unfold d_m_instance at hd
  unfold f_m_instance at h
  refine xj_E.adv 5 (pc' := (if xj_cmp .lt a 0 = true then 17 else 9)) (ls' := [(0, .ref 32), (1, .int a), (2, .int b)]) (st' := []) (w' := (SH, (xj_set S 32 0 0), T)) rfl ?_
  refine xj_E.b_lt (fun q => ?_) (fun q => ?_)
  · have hd := hd.1 q
    have h := fun v S9 e => h v S9 (Eq.trans e (if_pos q).symm)
    refine xj_E.adv 1 (pc' := 18) (ls' := [(0, .ref 32), (1, .int a), (2, .int b)]) (st' := [.int (-1)]) (w' := (SH, (xj_set S 32 0 0), T)) rfl ?_
    exact xj_E.ret rfl rfl rfl rfl (h _ _ rfl)
  · have hd := hd.2 q
    have h := fun v S9 e => h v S9 (Eq.trans e (if_neg q).symm)
    refine xj_E.adv 4 (pc' := (if xj_cmp .lt a (S 32 17) = true then 19 else 17)) (ls' := [(0, .ref 32), (1, .int a), (2, .int b)]) (st' := []) (w' := (SH, (xj_set S 32 0 0), T)) rfl ?_
    refine xj_E.b_lt (fun q => ?_) (fun q => ?_)
    · have hd := hd.1 q
      have h := fun v S9 e => h v S9 (Eq.trans e (if_pos q).symm)
      refine xj_E.adv 1 (pc' := 20) (ls' := [(0, .ref 32), (1, .int a), (2, .int b)]) (st' := [.int b]) (w' := (SH, (xj_set S 32 0 0), T)) rfl ?_
      by_cases q0 : b = 0
      · have hd := hd.1 q0
        have h := fun v S9 e => h v S9 (Eq.trans e (if_pos q0).symm)
        refine xj_E.swk q0 ?_
        refine xj_E.adv 1 (pc' := 52) (ls' := [(0, .ref 32), (1, .int a), (2, .int b)]) (st' := []) (w' := (SH, (xj_set S 32 0 0), T)) rfl ?_
        refine xj_E.adv 3 (pc' := 57) (ls' := [(0, .ref 32), (1, .int a), (2, .int b)]) (st' := [.int a, .ref 45]) (w' := (SH, (xj_set S 32 0 0), T)) rfl ?_
        refine xj_E.iald rfl rfl hd.1 ?_
        have hd := hd.2
        exact xj_E.ret rfl rfl rfl rfl (h _ _ rfl)
      · have hd := hd.2 q0
        have h := fun v S9 e => h v S9 (Eq.trans e (if_neg q0).symm)
        by_cases q1 : b = 1
        · have hd := hd.1 q1
          have h := fun v S9 e => h v S9 (Eq.trans e (if_pos q1).symm)
          refine xj_E.swk q1 ?_
          refine xj_E.adv 1 (pc' := 59) (ls' := [(0, .ref 32), (1, .int a), (2, .int b)]) (st' := []) (w' := (SH, (xj_set S 32 0 0), T)) rfl ?_
          refine xj_E.adv 3 (pc' := 64) (ls' := [(0, .ref 32), (1, .int a), (2, .int b)]) (st' := [.int a, .ref 46]) (w' := (SH, (xj_set S 32 0 0), T)) rfl ?_
          refine xj_E.iald rfl rfl hd.1 ?_
          have hd := hd.2
          exact xj_E.ret rfl rfl rfl rfl (h _ _ rfl)
        · have hd := hd.2 q1
          have h := fun v S9 e => h v S9 (Eq.trans e (if_neg q1).symm)
          by_cases q2 : b = 2
          · have hd := hd.1 q2
            have h := fun v S9 e => h v S9 (Eq.trans e (if_pos q2).symm)
            refine xj_E.swk q2 ?_
            refine xj_E.adv 1 (pc' := 66) (ls' := [(0, .ref 32), (1, .int a), (2, .int b)]) (st' := []) (w' := (SH, (xj_set S 32 0 0), T)) rfl ?_
            refine xj_E.adv 3 (pc' := 71) (ls' := [(0, .ref 32), (1, .int a), (2, .int b)]) (st' := [.int a, .ref 47]) (w' := (SH, (xj_set S 32 0 0), T)) rfl ?_
            refine xj_E.iald rfl rfl hd.1 ?_
            have hd := hd.2
            exact xj_E.ret rfl rfl rfl rfl (h _ _ rfl)
          · have hd := hd.2 q2
            have h := fun v S9 e => h v S9 (Eq.trans e (if_neg q2).symm)
            by_cases q3 : b = 3
            · have hd := hd.1 q3
              have h := fun v S9 e => h v S9 (Eq.trans e (if_pos q3).symm)
              refine xj_E.swk q3 ?_
              refine xj_E.adv 1 (pc' := 73) (ls' := [(0, .ref 32), (1, .int a), (2, .int b)]) (st' := []) (w' := (SH, (xj_set S 32 0 0), T)) rfl ?_
              refine xj_E.adv 3 (pc' := 78) (ls' := [(0, .ref 32), (1, .int a), (2, .int b)]) (st' := [.int a, .ref 48]) (w' := (SH, (xj_set S 32 0 0), T)) rfl ?_
              refine xj_E.iald rfl rfl hd.1 ?_
              have hd := hd.2
              exact xj_E.ret rfl rfl rfl rfl (h _ _ rfl)
            · have hd := hd.2 q3
              have h := fun v S9 e => h v S9 (Eq.trans e (if_neg q3).symm)
              refine xj_E.swt rfl (xj_swd (fun z z1 z2 => ?_)) rfl ?_
              · have hz : z = 0 ∨ z = 1 ∨ z = 2 ∨ z = 3 := by omega
                rcases hz with rfl | rfl | rfl | rfl
                · exact fun e => q0 (e.trans (by decide))
                · exact fun e => q1 (e.trans (by decide))
                · exact fun e => q2 (e.trans (by decide))
                · exact fun e => q3 (e.trans (by decide))
              refine xj_E.adv 1 (pc' := 81) (ls' := [(0, .ref 32), (1, .int a), (2, .int b)]) (st' := [.int (-1)]) (w' := (SH, (xj_set S 32 0 0), T)) rfl ?_
              exact xj_E.ret rfl rfl rfl rfl (h _ _ rfl)
    · have hd := hd.2 q
      have h := fun v S9 e => h v S9 (Eq.trans e (if_neg q).symm)
      refine xj_E.adv 1 (pc' := 18) (ls' := [(0, .ref 32), (1, .int a), (2, .int b)]) (st' := [.int (-1)]) (w' := (SH, (xj_set S 32 0 0), T)) rfl ?_
      exact xj_E.ret rfl rfl rfl rfl (h _ _ rfl)
