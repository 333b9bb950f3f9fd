set_option maxRecDepth 100000 in
theorem xM3_0 : ([(3, 9, 0, 0), (53, 1, 12, 1), (60, 0, 11, 2), (64, 1, 19, 1), (67, 0, 42, 1), (70, 1, 26, 2)] : List (Nat × Nat × Nat × Nat)).all (xGMb "CaseDesk$Plan") = true := by decide +kernel
set_option maxRecDepth 100000 in
theorem xM3_ok : xM3.all (xGMb "CaseDesk$Plan") = true := by
  show ([(3, 9, 0, 0), (53, 1, 12, 1), (60, 0, 11, 2), (64, 1, 19, 1), (67, 0, 42, 1), (70, 1, 26, 2)] : List (Nat × Nat × Nat × Nat)).all _ = true
  exact xM3_0
