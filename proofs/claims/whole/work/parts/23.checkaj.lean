set_option maxRecDepth 100000 in
theorem xk_0_18 : xj_chkR code 7 xc_0 720 40 = true := by decide +kernel
set_option maxRecDepth 100000 in
theorem xk_0_19 : xj_chkR code 7 xc_0 760 40 = true := by decide +kernel
