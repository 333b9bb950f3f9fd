set_option maxRecDepth 100000 in
theorem xk_0_8 : xj_chkR code 7 xc_0 320 40 = true := by decide +kernel
set_option maxRecDepth 100000 in
theorem xk_0_9 : xj_chkR code 7 xc_0 360 40 = true := by decide +kernel
