set_option maxRecDepth 100000 in
theorem xk_0_2 : xj_chkR code 7 xc_0 80 40 = true := by decide +kernel
set_option maxRecDepth 100000 in
theorem xk_0_3 : xj_chkR code 7 xc_0 120 40 = true := by decide +kernel
