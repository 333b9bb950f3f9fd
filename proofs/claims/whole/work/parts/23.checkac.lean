set_option maxRecDepth 100000 in
theorem xk_0_4 : xj_chkR code 7 xc_0 160 40 = true := by decide +kernel
set_option maxRecDepth 100000 in
theorem xk_0_5 : xj_chkR code 7 xc_0 200 40 = true := by decide +kernel
