set_option maxRecDepth 100000 in
theorem xk_0_12 : xj_chkR code 7 xc_0 480 40 = true := by decide +kernel
set_option maxRecDepth 100000 in
theorem xk_0_13 : xj_chkR code 7 xc_0 520 40 = true := by decide +kernel
