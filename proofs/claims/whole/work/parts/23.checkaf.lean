set_option maxRecDepth 100000 in
theorem xk_0_10 : xj_chkR code 7 xc_0 400 40 = true := by decide +kernel
set_option maxRecDepth 100000 in
theorem xk_0_11 : xj_chkR code 7 xc_0 440 40 = true := by decide +kernel
