/-! the law's start -/
theorem xj_E.mk {X : xj_T} {d m pc nx z : Nat} {ls : List (Nat × Value)} {st rest : List Value} {w : xj_W} {P : (Option Value ⊕ Nat) → xj_W → Nat → Nat → Prop} {i : Instr} {sh : xj_S} (hcd : xj_cd X m pc = some (i, nx)) (hs : xj_step X m i nx pc ls st w = none) (hi : xj_inv X m i st w = none) (he : xj_end X m i st w = none) (ht : xj_th X m pc = none) (hk : xj_mk X m i st = some (sh, z, rest)) (hc : xj_safe w.1.length ls rest = true ∧ xj_wok w = true)
    (h : xj_E X d m nx ls (.ref w.1.length :: rest) (w.1 ++ [sh], xj_setA w.2.1 w.1.length (fun _ => 0), fun j => if j = w.1.length then (fun _ => 0) else w.2.2 j) (fun o2 w2 c2 z2 => P o2 w2 (1 + c2) (z + z2))) : xj_E X d m pc ls st w P := by
  obtain ⟨n, o, w1, c1, z1, h1, h2⟩ := h
  refine ⟨n + 1, o, w1, 1 + c1, z + z1, ?_, h2⟩
  rw [xj_run_succ]
  unfold xj_lay
  simp only [hcd, hs, hi, he, ht, hk]
  rw [if_pos hc, h1]
  rfl
set_option maxRecDepth 100000 in
set_option maxHeartbeats 8000000 in
theorem lw_start {L : Nat} {xs : Nat → Int32} {P : (Option Value ⊕ Nat) → xj_W → Nat → Nat → Prop} (h : ∃ S T, yA S S (nI 0) ∧ True) : xj_E (xX L xs) 1000 0 0 [(0, .ref 1000)] [] ([], fun _ _ => 0, fun _ _ => 0) P := by
  refine xj_E.mk (z := 5) rfl rfl rfl rfl rfl rfl ⟨rfl, rfl⟩ ?_
  refine xj_E.adv 1 (pc' := 4) rfl ?_
  refine xj_E.call (d := 999) rfl rfl rfl rfl rfl ?_
  refine xj_E.adv 3 (pc' := 5) rfl ?_
  refine xj_E.mk (z := 14) rfl rfl rfl rfl rfl rfl ⟨rfl, rfl⟩ ?_
  refine xj_E.adv 1 (pc' := 9) rfl ?_
  refine xj_E.call (d := 998) rfl rfl rfl rfl rfl ?_
  refine xj_E.adv 4 (pc' := 7) rfl ?_
  refine xj_E.mk (z := 12) rfl rfl rfl rfl rfl rfl ⟨rfl, rfl⟩ ?_
  refine xj_E.adv 3 (pc' := 15) rfl ?_
  refine xj_E.mk (z := 12) rfl rfl rfl rfl rfl rfl ⟨rfl, rfl⟩ ?_
  refine xj_E.adv 3 (pc' := 23) rfl ?_
  refine xj_E.mk (z := 12) rfl rfl rfl rfl rfl rfl ⟨rfl, rfl⟩ ?_
  refine xj_E.adv 3 (pc' := 31) rfl ?_
  refine xj_E.mk (z := 12) rfl rfl rfl rfl rfl rfl ⟨rfl, rfl⟩ ?_
  refine xj_E.adv 3 (pc' := 39) rfl ?_
  refine xj_E.mk (z := 16) rfl rfl rfl rfl rfl rfl ⟨rfl, rfl⟩ ?_
  refine xj_E.adv 3 (pc' := 47) rfl ?_
  refine xj_E.mk (z := 16) rfl rfl rfl rfl rfl rfl ⟨rfl, rfl⟩ ?_
  refine xj_E.adv 3 (pc' := 55) rfl ?_
  refine xj_E.mk (z := 16) rfl rfl rfl rfl rfl rfl ⟨rfl, rfl⟩ ?_
  refine xj_E.adv 3 (pc' := 63) rfl ?_
  refine xj_E.mk (z := 32) rfl rfl rfl rfl rfl rfl ⟨rfl, rfl⟩ ?_
  refine xj_E.adv 3 (pc' := 71) rfl ?_
  refine xj_E.mk (z := 32) rfl rfl rfl rfl rfl rfl ⟨rfl, rfl⟩ ?_
  refine xj_E.adv 3 (pc' := 79) rfl ?_
  refine xj_E.mk (z := 16) rfl rfl rfl rfl rfl rfl ⟨rfl, rfl⟩ ?_
  refine xj_E.adv 3 (pc' := 87) rfl ?_
  refine xj_E.mk (z := 16) rfl rfl rfl rfl rfl rfl ⟨rfl, rfl⟩ ?_
  refine xj_E.adv 3 (pc' := 95) rfl ?_
  refine xj_E.mk (z := 16) rfl rfl rfl rfl rfl rfl ⟨rfl, rfl⟩ ?_
  refine xj_E.adv 14 (pc' := 119) rfl ?_
  refine xj_E.ret rfl rfl rfl rfl ?_
  refine xj_E.adv 2 (pc' := 16) rfl ?_
  refine xj_E.mk (z := 11) rfl rfl rfl rfl rfl rfl ⟨rfl, rfl⟩ ?_
  refine xj_E.adv 1 (pc' := 20) rfl ?_
  refine xj_E.call (d := 998) rfl rfl rfl rfl rfl ?_
  refine xj_E.adv 4 (pc' := 7) rfl ?_
  refine xj_E.mk (z := 40) rfl rfl rfl rfl rfl rfl ⟨rfl, rfl⟩ ?_
  refine xj_E.adv 3 (pc' := 15) rfl ?_
  refine xj_E.mk (z := 40) rfl rfl rfl rfl rfl rfl ⟨rfl, rfl⟩ ?_
  refine xj_E.adv 3 (pc' := 23) rfl ?_
  refine xj_E.mk (z := 40) rfl rfl rfl rfl rfl rfl ⟨rfl, rfl⟩ ?_
  refine xj_E.adv 3 (pc' := 31) rfl ?_
  refine xj_E.mk (z := 40) rfl rfl rfl rfl rfl rfl ⟨rfl, rfl⟩ ?_
  refine xj_E.adv 3 (pc' := 39) rfl ?_
  refine xj_E.mk (z := 40) rfl rfl rfl rfl rfl rfl ⟨rfl, rfl⟩ ?_
  refine xj_E.adv 3 (pc' := 46) rfl ?_
  refine xj_E.mk (z := 4) rfl rfl rfl rfl rfl rfl ⟨rfl, rfl⟩ ?_
  refine xj_E.adv 3 (pc' := 54) rfl ?_
  refine xj_E.mk (z := 48) rfl rfl rfl rfl rfl rfl ⟨rfl, rfl⟩ ?_
  refine xj_E.adv 3 (pc' := 62) rfl ?_
  refine xj_E.mk (z := 48) rfl rfl rfl rfl rfl rfl ⟨rfl, rfl⟩ ?_
  refine xj_E.adv 1 (pc' := 67) rfl ?_
  refine xj_E.ret rfl rfl rfl rfl ?_
  refine xj_E.adv 2 (pc' := 27) rfl ?_
  refine xj_E.mk (z := 11) rfl rfl rfl rfl rfl rfl ⟨rfl, rfl⟩ ?_
  refine xj_E.adv 1 (pc' := 31) rfl ?_
  refine xj_E.call (d := 998) rfl rfl rfl rfl rfl ?_
  refine xj_E.adv 4 (pc' := 7) rfl ?_
  refine xj_E.mk (z := 40) rfl rfl rfl rfl rfl rfl ⟨rfl, rfl⟩ ?_
  refine xj_E.adv 3 (pc' := 15) rfl ?_
  refine xj_E.mk (z := 40) rfl rfl rfl rfl rfl rfl ⟨rfl, rfl⟩ ?_
  refine xj_E.adv 3 (pc' := 23) rfl ?_
  refine xj_E.mk (z := 40) rfl rfl rfl rfl rfl rfl ⟨rfl, rfl⟩ ?_
  refine xj_E.adv 3 (pc' := 31) rfl ?_
  refine xj_E.mk (z := 40) rfl rfl rfl rfl rfl rfl ⟨rfl, rfl⟩ ?_
  refine xj_E.adv 3 (pc' := 39) rfl ?_
  refine xj_E.mk (z := 40) rfl rfl rfl rfl rfl rfl ⟨rfl, rfl⟩ ?_
  refine xj_E.adv 3 (pc' := 46) rfl ?_
  refine xj_E.mk (z := 4) rfl rfl rfl rfl rfl rfl ⟨rfl, rfl⟩ ?_
  refine xj_E.adv 3 (pc' := 54) rfl ?_
  refine xj_E.mk (z := 48) rfl rfl rfl rfl rfl rfl ⟨rfl, rfl⟩ ?_
  refine xj_E.adv 3 (pc' := 62) rfl ?_
  refine xj_E.mk (z := 48) rfl rfl rfl rfl rfl rfl ⟨rfl, rfl⟩ ?_
  refine xj_E.adv 1 (pc' := 67) rfl ?_
  refine xj_E.ret rfl rfl rfl rfl ?_
  refine xj_E.adv 1 (pc' := 37) rfl ?_
  refine xj_E.ret rfl rfl rfl rfl ?_
  refine xj_E.adv 1 (pc' := 8) rfl ?_
  refine xj_E.mk (z := 43) rfl rfl rfl rfl rfl rfl ⟨rfl, rfl⟩ ?_
  refine xj_E.adv 1 (pc' := 12) rfl ?_
  refine xj_E.call (d := 999) rfl rfl rfl rfl rfl ?_
  refine xj_E.adv 7 (pc' := 12) rfl ?_
  refine xj_E.mk (z := 12) rfl rfl rfl rfl rfl rfl ⟨rfl, rfl⟩ ?_
  refine xj_E.adv 3 (pc' := 20) rfl ?_
  refine xj_E.mk (z := 12) rfl rfl rfl rfl rfl rfl ⟨rfl, rfl⟩ ?_
  refine xj_E.adv 3 (pc' := 28) rfl ?_
  refine xj_E.mk (z := 12) rfl rfl rfl rfl rfl rfl ⟨rfl, rfl⟩ ?_
  refine xj_E.adv 3 (pc' := 36) rfl ?_
  refine xj_E.mk (z := 16) rfl rfl rfl rfl rfl rfl ⟨rfl, rfl⟩ ?_
  refine xj_E.adv 3 (pc' := 44) rfl ?_
  refine xj_E.mk (z := 16) rfl rfl rfl rfl rfl rfl ⟨rfl, rfl⟩ ?_
  refine xj_E.adv 3 (pc' := 52) rfl ?_
  refine xj_E.mk (z := 16) rfl rfl rfl rfl rfl rfl ⟨rfl, rfl⟩ ?_
  refine xj_E.adv 3 (pc' := 60) rfl ?_
  refine xj_E.mk (z := 32) rfl rfl rfl rfl rfl rfl ⟨rfl, rfl⟩ ?_
  refine xj_E.adv 3 (pc' := 68) rfl ?_
  refine xj_E.mk (z := 32) rfl rfl rfl rfl rfl rfl ⟨rfl, rfl⟩ ?_
  refine xj_E.adv 3 (pc' := 76) rfl ?_
  refine xj_E.mk (z := 16) rfl rfl rfl rfl rfl rfl ⟨rfl, rfl⟩ ?_
  refine xj_E.adv 3 (pc' := 84) rfl ?_
  refine xj_E.mk (z := 16) rfl rfl rfl rfl rfl rfl ⟨rfl, rfl⟩ ?_
  refine xj_E.adv 3 (pc' := 92) rfl ?_
  refine xj_E.mk (z := 16) rfl rfl rfl rfl rfl rfl ⟨rfl, rfl⟩ ?_
  refine xj_E.adv 3 (pc' := 100) rfl ?_
  refine xj_E.mk (z := 16) rfl rfl rfl rfl rfl rfl ⟨rfl, rfl⟩ ?_
  refine xj_E.adv 3 (pc' := 108) rfl ?_
  refine xj_E.mk (z := 40) rfl rfl rfl rfl rfl rfl ⟨rfl, rfl⟩ ?_
  refine xj_E.adv 3 (pc' := 116) rfl ?_
  refine xj_E.mk (z := 40) rfl rfl rfl rfl rfl rfl ⟨rfl, rfl⟩ ?_
  refine xj_E.adv 3 (pc' := 124) rfl ?_
  refine xj_E.mk (z := 40) rfl rfl rfl rfl rfl rfl ⟨rfl, rfl⟩ ?_
  refine xj_E.adv 3 (pc' := 132) rfl ?_
  refine xj_E.mk (z := 40) rfl rfl rfl rfl rfl rfl ⟨rfl, rfl⟩ ?_
  refine xj_E.adv 3 (pc' := 140) rfl ?_
  refine xj_E.mk (z := 40) rfl rfl rfl rfl rfl rfl ⟨rfl, rfl⟩ ?_
  refine xj_E.adv 3 (pc' := 147) rfl ?_
  refine xj_E.mk (z := 4) rfl rfl rfl rfl rfl rfl ⟨rfl, rfl⟩ ?_
  refine xj_E.adv 3 (pc' := 155) rfl ?_
  refine xj_E.mk (z := 48) rfl rfl rfl rfl rfl rfl ⟨rfl, rfl⟩ ?_
  refine xj_E.adv 3 (pc' := 163) rfl ?_
  refine xj_E.mk (z := 48) rfl rfl rfl rfl rfl rfl ⟨rfl, rfl⟩ ?_
  refine xj_E.adv 3 (pc' := 171) rfl ?_
  refine xj_E.mk (z := 40) rfl rfl rfl rfl rfl rfl ⟨rfl, rfl⟩ ?_
  refine xj_E.adv 3 (pc' := 179) rfl ?_
  refine xj_E.mk (z := 40) rfl rfl rfl rfl rfl rfl ⟨rfl, rfl⟩ ?_
  refine xj_E.adv 3 (pc' := 187) rfl ?_
  refine xj_E.mk (z := 40) rfl rfl rfl rfl rfl rfl ⟨rfl, rfl⟩ ?_
  refine xj_E.adv 3 (pc' := 195) rfl ?_
  refine xj_E.mk (z := 40) rfl rfl rfl rfl rfl rfl ⟨rfl, rfl⟩ ?_
  refine xj_E.adv 3 (pc' := 203) rfl ?_
  refine xj_E.mk (z := 40) rfl rfl rfl rfl rfl rfl ⟨rfl, rfl⟩ ?_
  refine xj_E.adv 3 (pc' := 210) rfl ?_
  refine xj_E.mk (z := 4) rfl rfl rfl rfl rfl rfl ⟨rfl, rfl⟩ ?_
  refine xj_E.adv 3 (pc' := 218) rfl ?_
  refine xj_E.mk (z := 48) rfl rfl rfl rfl rfl rfl ⟨rfl, rfl⟩ ?_
  refine xj_E.adv 3 (pc' := 226) rfl ?_
  refine xj_E.mk (z := 48) rfl rfl rfl rfl rfl rfl ⟨rfl, rfl⟩ ?_
  refine xj_E.adv 3 (pc' := 234) rfl ?_
  refine xj_E.mk (z := 16) rfl rfl rfl rfl rfl rfl ⟨rfl, rfl⟩ ?_
  refine xj_E.adv 3 (pc' := 242) rfl ?_
  refine xj_E.mk (z := 16) rfl rfl rfl rfl rfl rfl ⟨rfl, rfl⟩ ?_
  refine xj_E.adv 3 (pc' := 250) rfl ?_
  refine xj_E.mk (z := 16) rfl rfl rfl rfl rfl rfl ⟨rfl, rfl⟩ ?_
  refine xj_E.adv 6 (pc' := 262) rfl ?_
  refine xj_E.ret rfl rfl rfl rfl ?_
  refine xj_E.adv 2 (pc' := 17) rfl ?_
  refine xj_E.mk (z := 1) rfl rfl rfl rfl rfl rfl ⟨rfl, rfl⟩ ?_
  refine xj_E.adv 3 (pc' := 23) rfl ?_
  sorry
