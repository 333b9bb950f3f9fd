section XR2
variable {X : xj_T} {d m pc nx t n : Nat} {ls : List (Nat × Value)} {st r : List Value} {w : xj_W} {P : (Option Value ⊕ Nat) → xj_W → Nat → Nat → Prop} {x y a : Int32}
theorem xj_E.irem (hcd : xj_cd X m pc = some (.irem, nx)) (hy : y ≠ 0) (k : xj_E X d m nx ls (.int (x - x / y * y) :: r) w P) : xj_E X d m pc ls (.int y :: .int x :: r) w P := by
  refine xj_E.one hcd ?_ k
  have e : xj_sE .irem nx ls (.int y :: .int x :: r) w = some (nx, ls, .int (x - x / y * y) :: r, w) := by
    simp only [xj_sE, xj_op2, if_neg hy]
  show xj_or (xj_sE .irem nx ls (.int y :: .int x :: r) w) _ = _
  rw [e]; rfl
theorem xj_oH {i : Instr} (h : (∃ df lo hi offs, i = .tableswitch df lo hi offs) ∨ ∃ df ps, i = .lookupswitch df ps) : xj_step X m i nx pc ls st w = xj_sH i pc ls st w := by
  have hA : xj_sA i nx ls st w = none := by
    unfold xj_sA
    rcases h with ⟨df, lo, hi, offs, rfl⟩ | ⟨df, ps, rfl⟩ <;> first | rfl | (split <;> rfl) | (split <;> first | rfl | (split <;> rfl))
  have hB : xj_sB i nx ls st w = none := by
    unfold xj_sB
    rcases h with ⟨df, lo, hi, offs, rfl⟩ | ⟨df, ps, rfl⟩ <;> first | rfl | (split <;> rfl) | (split <;> first | rfl | (split <;> rfl))
  have hC : xj_sC i nx ls st w = none := by
    unfold xj_sC
    rcases h with ⟨df, lo, hi, offs, rfl⟩ | ⟨df, ps, rfl⟩ <;> first | rfl | (split <;> rfl) | (split <;> first | rfl | (split <;> rfl))
  have hD : xj_sD i nx ls st w = none := by
    unfold xj_sD
    rcases h with ⟨df, lo, hi, offs, rfl⟩ | ⟨df, ps, rfl⟩ <;> first | rfl | (split <;> rfl) | (split <;> first | rfl | (split <;> rfl))
  have hE : xj_sE i nx ls st w = none := by
    unfold xj_sE
    rcases h with ⟨df, lo, hi, offs, rfl⟩ | ⟨df, ps, rfl⟩ <;> first | rfl | (split <;> rfl) | (split <;> first | rfl | (split <;> rfl))
  have hF : xj_sF i nx ls st w = none := by
    unfold xj_sF
    rcases h with ⟨df, lo, hi, offs, rfl⟩ | ⟨df, ps, rfl⟩ <;> first | rfl | (split <;> rfl) | (split <;> first | rfl | (split <;> rfl))
  have hG : xj_sG i nx pc ls st w = none := by
    unfold xj_sG
    rcases h with ⟨df, lo, hi, offs, rfl⟩ | ⟨df, ps, rfl⟩ <;> first | rfl | (split <;> rfl) | (split <;> first | rfl | (split <;> rfl))
  have hJ : xj_sJ X m i nx ls st w = none := by
    unfold xj_sJ
    rcases h with ⟨df, lo, hi, offs, rfl⟩ | ⟨df, ps, rfl⟩ <;> first | rfl | (split <;> rfl) | (split <;> first | rfl | (split <;> rfl))
  have hL : xj_sL X i nx ls st w = none := by
    unfold xj_sL
    rcases h with ⟨df, lo, hi, offs, rfl⟩ | ⟨df, ps, rfl⟩ <;> first | rfl | (split <;> rfl) | (split <;> first | rfl | (split <;> rfl))
  have hI : xj_sI i nx ls st w = none := by
    unfold xj_sI
    rcases h with ⟨df, lo, hi, offs, rfl⟩ | ⟨df, ps, rfl⟩ <;> first | rfl | (split <;> rfl) | (split <;> first | rfl | (split <;> rfl))
  have hM : xj_sM X m i nx ls st w = none := by
    unfold xj_sM
    rcases h with ⟨df, lo, hi, offs, rfl⟩ | ⟨df, ps, rfl⟩ <;> first | rfl | (split <;> rfl) | (split <;> first | rfl | (split <;> rfl))
  unfold xj_step
  rw [hA, hB, hC, hD, hE, hF, hG, hJ, hL, hI, hM]
  cases xj_sH i pc ls st w <;> rfl
theorem xj_E.swk (e : x = a) (k : xj_E X d m pc ls (.int a :: r) w P) : xj_E X d m pc ls (.int x :: r) w P := by rw [e]; exact k
theorem xj_swd {lo hi : Int} (h : ∀ z : Int, lo ≤ z → z ≤ hi → x ≠ Int32.ofInt z) : x.toInt < lo ∨ hi < x.toInt := by
  by_cases h1 : x.toInt < lo
  · exact Or.inl h1
  · by_cases h2 : hi < x.toInt
    · exact Or.inr h2
    · exact absurd (Int32.ofInt_toInt x).symm (h x.toInt (by omega) (by omega))
theorem xj_E.swt {df lo hi : Int} {offs : Array Int} (hcd : xj_cd X m pc = some (.tableswitch df lo hi offs, nx)) (hx : x.toInt < lo ∨ hi < x.toInt) (ht : xj_to pc df = some t) (k : xj_E X d m t ls r w P) : xj_E X d m pc ls (.int x :: r) w P := by
  refine xj_E.one hcd ?_ k
  have e : xj_sH (.tableswitch df lo hi offs) pc ls (.int x :: r) w = some (t, ls, r, w) := by
    simp only [xj_sH, if_pos hx, ht, Option.map_some]
  rw [xj_oH (Or.inl ⟨_, _, _, _, rfl⟩), e]
theorem xj_ti {z : Int} (e : z = x.toInt) (h : Int32.ofInt z = a) : x = a := by rw [← h, e, Int32.ofInt_toInt]
theorem xj_E.swl2 {df a1 o1 a2 o2 : Int} (hcd : xj_cd X m pc = some (.lookupswitch df #[(a1, o1), (a2, o2)], nx)) (hord : decide (a1 < a2) = true) (h1 : a1 = x.toInt → False) (h2 : a2 = x.toInt → False) (ht : xj_to pc df = some t) (k : xj_E X d m t ls r w P) : xj_E X d m pc ls (.int x :: r) w P := by
  refine xj_E.one hcd ?_ k
  have e : xj_sH (.lookupswitch df #[(a1, o1), (a2, o2)]) pc ls (.int x :: r) w = some (t, ls, r, w) := by
    have g : ((#[(a1, o1), (a2, o2)] : Array (Int × Int)).toList.zip ((#[(a1, o1), (a2, o2)] : Array (Int × Int)).toList.drop 1)).all (fun (a, next) => a.1 < next.1) = true := by simpa using hord
    simp only [xj_sH]
    rw [if_pos g]
    simp only [Op.lookupswitch.offset_cons, Op.lookupswitch.offset_nil, if_neg h1, if_neg h2, ht, Option.map_some]
  rw [xj_oH (Or.inr ⟨_, _, rfl⟩), e]
end XR2
