set_option maxRecDepth 100000 in
theorem xM2_0 : ([(3, 9, 0, 0), (43, 0, 1, 2), (55, 8, 0, 0)] : List (Nat × Nat × Nat × Nat)).all (xGMb "CaseDesk$Life") = true := by decide +kernel
set_option maxRecDepth 100000 in
theorem xM2_ok : xM2.all (xGMb "CaseDesk$Life") = true := by
  show ([(3, 9, 0, 0), (43, 0, 1, 2), (55, 8, 0, 0)] : List (Nat × Nat × Nat × Nat)).all _ = true
  exact xM2_0
