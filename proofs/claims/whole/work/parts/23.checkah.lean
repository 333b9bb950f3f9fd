set_option maxRecDepth 100000 in
theorem xk_0_14 : xj_chkR code 7 xc_0 560 40 = true := by decide +kernel
set_option maxRecDepth 100000 in
theorem xk_0_15 : xj_chkR code 7 xc_0 600 40 = true := by decide +kernel
