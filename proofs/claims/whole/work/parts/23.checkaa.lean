set_option maxRecDepth 100000 in
theorem xk_0_0 : xj_chkR code 7 xc_0 0 40 = true := by decide +kernel
set_option maxRecDepth 100000 in
theorem xk_0_1 : xj_chkR code 7 xc_0 40 40 = true := by decide +kernel
