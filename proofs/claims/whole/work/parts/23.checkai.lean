set_option maxRecDepth 100000 in
theorem xk_0_16 : xj_chkR code 7 xc_0 640 40 = true := by decide +kernel
set_option maxRecDepth 100000 in
theorem xk_0_17 : xj_chkR code 7 xc_0 680 40 = true := by decide +kernel
