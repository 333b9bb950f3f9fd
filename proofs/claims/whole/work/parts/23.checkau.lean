set_option maxRecDepth 100000 in
theorem xk_98_0 : xj_chkR prog_5_method_32_code 2 xc_98 0 60 = true := by decide +kernel
set_option maxRecDepth 100000 in
theorem xk_98_1 : xj_chkR prog_5_method_32_code 2 xc_98 60 60 = true := by decide +kernel
set_option maxRecDepth 100000 in
theorem xk_98_2 : xj_chkR prog_5_method_32_code 2 xc_98 120 44 = true := by decide +kernel
set_option maxRecDepth 100000 in
theorem xk_99 : xj_chk prog_5_method_33_code 2 xc_99 154 = true := by decide +kernel
set_option maxRecDepth 100000 in
theorem xk_100 : xj_chk prog_5_method_34_code 2 xc_100 26 = true := by decide +kernel
set_option maxRecDepth 100000 in
theorem xk_101 : xj_chk prog_5_method_35_code 3 xc_101 80 = true := by decide +kernel
