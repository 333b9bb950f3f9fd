set_option maxRecDepth 100000 in
theorem xk_0_20 : xj_chkR code 7 xc_0 800 35 = true := by decide +kernel
set_option maxRecDepth 100000 in
theorem xk_1 : xj_chk prog_9_method_50_code 3 xc_1 20 = true := by decide +kernel
set_option maxRecDepth 100000 in
theorem xk_2 : xj_chk prog_2_method_1_code 1 xc_2 68 = true := by decide +kernel
set_option maxRecDepth 100000 in
theorem xk_3 : xj_chk prog_2_method_2_code 1 xc_3 13 = true := by decide +kernel
set_option maxRecDepth 100000 in
theorem xk_4 : xj_chk prog_2_method_3_code 2 xc_4 18 = true := by decide +kernel
set_option maxRecDepth 100000 in
theorem xk_5 : xj_chk prog_2_method_4_code 2 xc_5 26 = true := by decide +kernel
set_option maxRecDepth 100000 in
theorem xk_6 : xj_chk prog_2_method_5_code 2 xc_6 25 = true := by decide +kernel
set_option maxRecDepth 100000 in
theorem xk_7 : xj_chk prog_2_method_6_code 3 xc_7 37 = true := by decide +kernel
set_option maxRecDepth 100000 in
theorem xk_8 : xj_chk prog_2_method_7_code 4 xc_8 56 = true := by decide +kernel
set_option maxRecDepth 100000 in
theorem xk_9 : xj_chk prog_2_method_8_code 2 xc_9 144 = true := by decide +kernel
