set_option maxRecDepth 100000 in
theorem xk_0_6 : xj_chkR code 7 xc_0 240 40 = true := by decide +kernel
set_option maxRecDepth 100000 in
theorem xk_0_7 : xj_chkR code 7 xc_0 280 40 = true := by decide +kernel
