/-! new, throws, catches -/
set_option maxRecDepth 100000 in
theorem xn_0_8 {L mi : Nat} {xs : Nat → Int32} (ho : (xyN mi).cls = "CaseDeskLaw") : xj_GN (xX L xs) xyN xcm xcl mi 8 2 [.null, .null, .null, .int 0, .int 0] := by
  refine ⟨"CaseDesk", xT2, 5, xt2, [.null, .null, .null, .int 0, .int 0], rfl, xcl_2a, xcl_2b, ?_, ?_, ?_, rfl, ?_, by decide +kernel⟩
  · rw [ho]; decide +kernel
  · decide +kernel
  · decide +kernel
  · intro ad
    simp only [List.mapIdx_cons, List.mapIdx_nil, xj_fv, xj_cv]
set_option maxRecDepth 100000 in
theorem xn_0_44 {L mi : Nat} {xs : Nat → Int32} (ho : (xyN mi).cls = "CaseDeskLaw") : xj_GN (xX L xs) xyN xcm xcl mi 44 3 [.int 0, .int 0, .null, .null, .null, .int 0, .null, .null, .null, .null, .null, .null, .null, .null, .null, .int 0, .int 0, .int 0, .null, .null, .null, .null, .null, .null, .int 0, .null, .null, .int 0, .null, .null, .null, .null, .null, .null, .int 0, .null, .null, .int 0, .int 0, .int 0, .null, .null, .null] := by
  refine ⟨"CaseDeskModel", xT3, 43, xt3, [.int 0, .int 0, .null, .null, .null, .int 0, .null, .null, .null, .null, .null, .null, .null, .null, .null, .int 0, .int 0, .int 0, .null, .null, .null, .null, .null, .null, .int 0, .null, .null, .int 0, .null, .null, .null, .null, .null, .null, .int 0, .null, .null, .int 0, .int 0, .int 0, .null, .null, .null], rfl, xcl_3a, xcl_3b, ?_, ?_, ?_, rfl, ?_, by decide +kernel⟩
  · rw [ho]; decide +kernel
  · decide +kernel
  · decide +kernel
  · intro ad
    simp only [List.mapIdx_cons, List.mapIdx_nil, xj_fv, xj_cv]
set_option maxRecDepth 100000 in
theorem xn_4_7 {L mi : Nat} {xs : Nat → Int32} (ho : (xyN mi).cls = "CaseDesk") : xj_GN (xX L xs) xyN xcm xcl mi 7 1 [.int 0, .null, .null, .null, .null, .int 0, .null, .null, .null, .null, .null, .null, .null, .null] := by
  refine ⟨"CaseDesk$Plan", xT1, 14, xt1, [.int 0, .null, .null, .null, .null, .int 0, .null, .null, .null, .null, .null, .null, .null, .null], rfl, xcl_1a, xcl_1b, ?_, ?_, ?_, rfl, ?_, by decide +kernel⟩
  · rw [ho]; decide +kernel
  · decide +kernel
  · decide +kernel
  · intro ad
    simp only [List.mapIdx_cons, List.mapIdx_nil, xj_fv, xj_cv]
set_option maxRecDepth 100000 in
theorem xn_4_16 {L mi : Nat} {xs : Nat → Int32} (ho : (xyN mi).cls = "CaseDesk") : xj_GN (xX L xs) xyN xcm xcl mi 16 0 [.int 0, .int 0, .null, .null, .null, .null, .null, .null, .int 0, .null, .null] := by
  refine ⟨"CaseDesk$Life", xT0, 11, xt0, [.int 0, .int 0, .null, .null, .null, .null, .null, .null, .int 0, .null, .null], rfl, xcl_0a, xcl_0b, ?_, ?_, ?_, rfl, ?_, by decide +kernel⟩
  · rw [ho]; decide +kernel
  · decide +kernel
  · decide +kernel
  · intro ad
    simp only [List.mapIdx_cons, List.mapIdx_nil, xj_fv, xj_cv]
set_option maxRecDepth 100000 in
theorem xg_28_22 : xj_GT xyN xbt xhh xcm xwk xsl xex 28 22 0 := by
  refine ⟨34, 36, 38, 7, ⟨#[42, 43, 183, 0, 7, 177]⟩, "the case has begun, or there are 12 items", ?_, ?_, ?_, ?_, rfl, ?_, ?_, ?_, ?_, ?_, ?_, ?_, ?_, ?_, ?_, ?_, ?_, ?_⟩ <;> decide +kernel
set_option maxRecDepth 100000 in
theorem xg_28_85 : xj_GT xyN xbt xhh xcm xwk xsl xex 28 85 1 := by
  refine ⟨45, 47, 49, 7, ⟨#[42, 43, 183, 0, 7, 177]⟩, "no such kind, stage or flags", ?_, ?_, ?_, ?_, rfl, ?_, ?_, ?_, ?_, ?_, ?_, ?_, ?_, ?_, ?_, ?_, ?_, ?_⟩ <;> decide +kernel
set_option maxRecDepth 100000 in
theorem xg_29_22 : xj_GT xyN xbt xhh xcm xwk xsl xex 29 22 0 := by
  refine ⟨34, 57, 38, 7, ⟨#[42, 43, 183, 0, 7, 177]⟩, "the case has begun, or there are 16 sentries", ?_, ?_, ?_, ?_, rfl, ?_, ?_, ?_, ?_, ?_, ?_, ?_, ?_, ?_, ?_, ?_, ?_, ?_⟩ <;> decide +kernel
set_option maxRecDepth 100000 in
theorem xg_29_44 : xj_GT xyN xbt xhh xcm xwk xsl xex 29 44 1 := by
  refine ⟨45, 63, 49, 7, ⟨#[42, 43, 183, 0, 7, 177]⟩, "no item that can have such a sentry", ?_, ?_, ?_, ?_, rfl, ?_, ?_, ?_, ?_, ?_, ?_, ?_, ?_, ?_, ?_, ?_, ?_, ?_⟩ <;> decide +kernel
set_option maxRecDepth 100000 in
theorem xg_30_21 : xj_GT xyN xbt xhh xcm xwk xsl xex 30 21 0 := by
  refine ⟨34, 72, 38, 7, ⟨#[42, 43, 183, 0, 7, 177]⟩, "the case has begun, or the sentry has two on-parts", ?_, ?_, ?_, ?_, rfl, ?_, ?_, ?_, ?_, ?_, ?_, ?_, ?_, ?_, ?_, ?_, ?_, ?_⟩ <;> decide +kernel
set_option maxRecDepth 100000 in
theorem xg_30_55 : xj_GT xyN xbt xhh xcm xwk xsl xex 30 55 1 := by
  refine ⟨45, 81, 49, 7, ⟨#[42, 43, 183, 0, 7, 177]⟩, "no such sentry, source or move", ?_, ?_, ?_, ?_, rfl, ?_, ?_, ?_, ?_, ?_, ?_, ?_, ?_, ?_, ?_, ?_, ?_, ?_⟩ <;> decide +kernel
set_option maxRecDepth 100000 in
theorem xg_31_10 : xj_GT xyN xbt xhh xcm xwk xsl xex 31 10 0 := by
  refine ⟨34, 86, 38, 7, ⟨#[42, 43, 183, 0, 7, 177]⟩, "the case has begun", ?_, ?_, ?_, ?_, rfl, ?_, ?_, ?_, ?_, ?_, ?_, ?_, ?_, ?_, ?_, ?_, ?_, ?_⟩ <;> decide +kernel
set_option maxRecDepth 100000 in
theorem xg_31_47 : xj_GT xyN xbt xhh xcm xwk xsl xex 31 47 1 := by
  refine ⟨45, 91, 49, 7, ⟨#[42, 43, 183, 0, 7, 177]⟩, "no such sentry, variable or sign", ?_, ?_, ?_, ?_, rfl, ?_, ?_, ?_, ?_, ?_, ?_, ?_, ?_, ?_, ?_, ?_, ?_, ?_⟩ <;> decide +kernel
set_option maxRecDepth 100000 in
theorem xg_32_10 : xj_GT xyN xbt xhh xcm xwk xsl xex 32 10 0 := by
  refine ⟨34, 86, 38, 7, ⟨#[42, 43, 183, 0, 7, 177]⟩, "the case has begun", ?_, ?_, ?_, ?_, rfl, ?_, ?_, ?_, ?_, ?_, ?_, ?_, ?_, ?_, ?_, ?_, ?_, ?_⟩ <;> decide +kernel
set_option maxRecDepth 100000 in
theorem xg_32_31 : xj_GT xyN xbt xhh xcm xwk xsl xex 32 31 1 := by
  refine ⟨45, 97, 49, 7, ⟨#[42, 43, 183, 0, 7, 177]⟩, "no such bound", ?_, ?_, ?_, ?_, rfl, ?_, ?_, ?_, ?_, ?_, ?_, ?_, ?_, ?_, ?_, ?_, ?_, ?_⟩ <;> decide +kernel
set_option maxRecDepth 100000 in
theorem xg_33_11 : xj_GT xyN xbt xhh xcm xwk xsl xex 33 11 3 := by
  refine ⟨119, 121, 123, 13, ⟨#[42, 43, 183, 0, 13, 177]⟩, "no such instance", ?_, ?_, ?_, ?_, rfl, ?_, ?_, ?_, ?_, ?_, ?_, ?_, ?_, ?_, ?_, ?_, ?_, ?_⟩ <;> decide +kernel
set_option maxRecDepth 100000 in
theorem xg_33_28 : xj_GT xyN xbt xhh xcm xwk xsl xex 33 28 1 := by
  refine ⟨45, 127, 49, 7, ⟨#[42, 43, 183, 0, 7, 177]⟩, "no move for a command", ?_, ?_, ?_, ?_, rfl, ?_, ?_, ?_, ?_, ?_, ?_, ?_, ?_, ?_, ?_, ?_, ?_, ?_⟩ <;> decide +kernel
set_option maxRecDepth 100000 in
theorem xg_33_47 : xj_GT xyN xbt xhh xcm xwk xsl xex 33 47 0 := by
  refine ⟨34, 133, 38, 7, ⟨#[42, 43, 183, 0, 7, 177]⟩, "the instance can't make this move now", ?_, ?_, ?_, ?_, rfl, ?_, ?_, ?_, ?_, ?_, ?_, ?_, ?_, ?_, ?_, ?_, ?_, ?_⟩ <;> decide +kernel
set_option maxRecDepth 100000 in
theorem xg_34_7 : xj_GT xyN xbt xhh xcm xwk xsl xex 34 7 1 := by
  refine ⟨45, 135, 49, 7, ⟨#[42, 43, 183, 0, 7, 177]⟩, "no such variable", ?_, ?_, ?_, ?_, rfl, ?_, ?_, ?_, ?_, ?_, ?_, ?_, ?_, ?_, ?_, ?_, ?_, ?_⟩ <;> decide +kernel
set_option maxRecDepth 100000 in
theorem xg_48_96 : xj_GT xyN xbt xhh xcm xwk xsl xex 48 96 2 := by
  refine ⟨217, 219, 221, 7, ⟨#[42, 43, 183, 0, 7, 177]⟩, "the command was cut off", ?_, ?_, ?_, ?_, rfl, ?_, ?_, ?_, ?_, ?_, ?_, ?_, ?_, ?_, ?_, ?_, ?_, ?_⟩ <;> decide +kernel
theorem xh_114_0 : xj_GH xyN xhh xcm xwk xnc (xex 0).1 114 7 15 := by
  refine ⟨[], ⟨0, 12, 15, 13⟩, [⟨0, 12, 19, 15⟩], "java/lang/IllegalStateException", rfl, rfl, by decide +kernel, by decide +kernel, by decide +kernel, by decide +kernel, ?_⟩
  intro z hz; cases hz
theorem xh_114_1 : xj_GH xyN xhh xcm xwk xnc (xex 1).1 114 7 19 := by
  refine ⟨[⟨0, 12, 15, 13⟩], ⟨0, 12, 19, 15⟩, [], "java/lang/IllegalArgumentException", rfl, rfl, by decide +kernel, by decide +kernel, by decide +kernel, by decide +kernel, ?_⟩
  intro z hz
  simp only [List.mem_cons, List.not_mem_nil, or_false] at hz
  rcases hz with rfl
  · exact Or.inr ⟨by decide +kernel, "java/lang/IllegalStateException", by decide +kernel, by decide +kernel⟩
theorem xh_115_0 : xj_GH xyN xhh xcm xwk xnc (xex 0).1 115 5 13 := by
  refine ⟨[], ⟨0, 10, 13, 13⟩, [⟨0, 10, 17, 15⟩], "java/lang/IllegalStateException", rfl, rfl, by decide +kernel, by decide +kernel, by decide +kernel, by decide +kernel, ?_⟩
  intro z hz; cases hz
theorem xh_115_1 : xj_GH xyN xhh xcm xwk xnc (xex 1).1 115 5 17 := by
  refine ⟨[⟨0, 10, 13, 13⟩], ⟨0, 10, 17, 15⟩, [], "java/lang/IllegalArgumentException", rfl, rfl, by decide +kernel, by decide +kernel, by decide +kernel, by decide +kernel, ?_⟩
  intro z hz
  simp only [List.mem_cons, List.not_mem_nil, or_false] at hz
  rcases hz with rfl
  · exact Or.inr ⟨by decide +kernel, "java/lang/IllegalStateException", by decide +kernel, by decide +kernel⟩
theorem xh_116_0 : xj_GH xyN xhh xcm xwk xnc (xex 0).1 116 7 15 := by
  refine ⟨[], ⟨0, 12, 15, 13⟩, [⟨0, 12, 19, 15⟩], "java/lang/IllegalStateException", rfl, rfl, by decide +kernel, by decide +kernel, by decide +kernel, by decide +kernel, ?_⟩
  intro z hz; cases hz
theorem xh_116_1 : xj_GH xyN xhh xcm xwk xnc (xex 1).1 116 7 19 := by
  refine ⟨[⟨0, 12, 15, 13⟩], ⟨0, 12, 19, 15⟩, [], "java/lang/IllegalArgumentException", rfl, rfl, by decide +kernel, by decide +kernel, by decide +kernel, by decide +kernel, ?_⟩
  intro z hz
  simp only [List.mem_cons, List.not_mem_nil, or_false] at hz
  rcases hz with rfl
  · exact Or.inr ⟨by decide +kernel, "java/lang/IllegalStateException", by decide +kernel, by decide +kernel⟩
theorem xh_117_0 : xj_GH xyN xhh xcm xwk xnc (xex 0).1 117 6 12 := by
  refine ⟨[], ⟨0, 9, 12, 13⟩, [⟨0, 9, 16, 15⟩], "java/lang/IllegalStateException", rfl, rfl, by decide +kernel, by decide +kernel, by decide +kernel, by decide +kernel, ?_⟩
  intro z hz; cases hz
theorem xh_117_1 : xj_GH xyN xhh xcm xwk xnc (xex 1).1 117 6 16 := by
  refine ⟨[⟨0, 9, 12, 13⟩], ⟨0, 9, 16, 15⟩, [], "java/lang/IllegalArgumentException", rfl, rfl, by decide +kernel, by decide +kernel, by decide +kernel, by decide +kernel, ?_⟩
  intro z hz
  simp only [List.mem_cons, List.not_mem_nil, or_false] at hz
  rcases hz with rfl
  · exact Or.inr ⟨by decide +kernel, "java/lang/IllegalStateException", by decide +kernel, by decide +kernel⟩
theorem xh_118_0 : xj_GH xyN xhh xcm xwk xnc (xex 0).1 118 4 12 := by
  refine ⟨[], ⟨0, 9, 12, 13⟩, [⟨0, 9, 15, 15⟩, ⟨0, 9, 18, 32⟩], "java/lang/IllegalStateException", rfl, rfl, by decide +kernel, by decide +kernel, by decide +kernel, by decide +kernel, ?_⟩
  intro z hz; cases hz
theorem xh_118_1 : xj_GH xyN xhh xcm xwk xnc (xex 1).1 118 4 15 := by
  refine ⟨[⟨0, 9, 12, 13⟩], ⟨0, 9, 15, 15⟩, [⟨0, 9, 18, 32⟩], "java/lang/IllegalArgumentException", rfl, rfl, by decide +kernel, by decide +kernel, by decide +kernel, by decide +kernel, ?_⟩
  intro z hz
  simp only [List.mem_cons, List.not_mem_nil, or_false] at hz
  rcases hz with rfl
  · exact Or.inr ⟨by decide +kernel, "java/lang/IllegalStateException", by decide +kernel, by decide +kernel⟩
theorem xh_118_2 : xj_GH xyN xhh xcm xwk xnc (xex 2).1 118 4 18 := by
  refine ⟨[⟨0, 9, 12, 13⟩, ⟨0, 9, 15, 15⟩], ⟨0, 9, 18, 32⟩, [], "java/lang/UnsupportedOperationException", rfl, rfl, by decide +kernel, by decide +kernel, by decide +kernel, by decide +kernel, ?_⟩
  intro z hz
  simp only [List.mem_cons, List.not_mem_nil, or_false] at hz
  rcases hz with rfl | rfl
  · exact Or.inr ⟨by decide +kernel, "java/lang/IllegalStateException", by decide +kernel, by decide +kernel⟩
  · exact Or.inr ⟨by decide +kernel, "java/lang/IllegalArgumentException", by decide +kernel, by decide +kernel⟩
theorem xh_119_0 : xj_GH xyN xhh xcm xwk xnc (xex 0).1 119 5 21 := by
  refine ⟨[⟨0, 10, 13, 38⟩, ⟨0, 10, 17, 15⟩], ⟨0, 10, 21, 13⟩, [⟨0, 10, 25, 32⟩], "java/lang/IllegalStateException", rfl, rfl, by decide +kernel, by decide +kernel, by decide +kernel, by decide +kernel, ?_⟩
  intro z hz
  simp only [List.mem_cons, List.not_mem_nil, or_false] at hz
  rcases hz with rfl | rfl
  · exact Or.inr ⟨by decide +kernel, "java/util/NoSuchElementException", by decide +kernel, by decide +kernel⟩
  · exact Or.inr ⟨by decide +kernel, "java/lang/IllegalArgumentException", by decide +kernel, by decide +kernel⟩
theorem xh_119_1 : xj_GH xyN xhh xcm xwk xnc (xex 1).1 119 5 17 := by
  refine ⟨[⟨0, 10, 13, 38⟩], ⟨0, 10, 17, 15⟩, [⟨0, 10, 21, 13⟩, ⟨0, 10, 25, 32⟩], "java/lang/IllegalArgumentException", rfl, rfl, by decide +kernel, by decide +kernel, by decide +kernel, by decide +kernel, ?_⟩
  intro z hz
  simp only [List.mem_cons, List.not_mem_nil, or_false] at hz
  rcases hz with rfl
  · exact Or.inr ⟨by decide +kernel, "java/util/NoSuchElementException", by decide +kernel, by decide +kernel⟩
theorem xh_119_2 : xj_GH xyN xhh xcm xwk xnc (xex 2).1 119 5 25 := by
  refine ⟨[⟨0, 10, 13, 38⟩, ⟨0, 10, 17, 15⟩, ⟨0, 10, 21, 13⟩], ⟨0, 10, 25, 32⟩, [], "java/lang/UnsupportedOperationException", rfl, rfl, by decide +kernel, by decide +kernel, by decide +kernel, by decide +kernel, ?_⟩
  intro z hz
  simp only [List.mem_cons, List.not_mem_nil, or_false] at hz
  rcases hz with rfl | rfl | rfl
  · exact Or.inr ⟨by decide +kernel, "java/util/NoSuchElementException", by decide +kernel, by decide +kernel⟩
  · exact Or.inr ⟨by decide +kernel, "java/lang/IllegalArgumentException", by decide +kernel, by decide +kernel⟩
  · exact Or.inr ⟨by decide +kernel, "java/lang/IllegalStateException", by decide +kernel, by decide +kernel⟩
theorem xh_119_3 : xj_GH xyN xhh xcm xwk xnc (xex 3).1 119 5 13 := by
  refine ⟨[], ⟨0, 10, 13, 38⟩, [⟨0, 10, 17, 15⟩, ⟨0, 10, 21, 13⟩, ⟨0, 10, 25, 32⟩], "java/util/NoSuchElementException", rfl, rfl, by decide +kernel, by decide +kernel, by decide +kernel, by decide +kernel, ?_⟩
  intro z hz; cases hz
theorem xh_120_1 : xj_GH xyN xhh xcm xwk xnc (xex 1).1 120 5 13 := by
  refine ⟨[], ⟨0, 10, 13, 15⟩, [⟨0, 10, 17, 32⟩], "java/lang/IllegalArgumentException", rfl, rfl, by decide +kernel, by decide +kernel, by decide +kernel, by decide +kernel, ?_⟩
  intro z hz; cases hz
theorem xh_120_2 : xj_GH xyN xhh xcm xwk xnc (xex 2).1 120 5 17 := by
  refine ⟨[⟨0, 10, 13, 15⟩], ⟨0, 10, 17, 32⟩, [], "java/lang/UnsupportedOperationException", rfl, rfl, by decide +kernel, by decide +kernel, by decide +kernel, by decide +kernel, ?_⟩
  intro z hz
  simp only [List.mem_cons, List.not_mem_nil, or_false] at hz
  rcases hz with rfl
  · exact Or.inr ⟨by decide +kernel, "java/lang/IllegalArgumentException", by decide +kernel, by decide +kernel⟩
