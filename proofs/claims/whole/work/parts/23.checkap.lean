set_option maxRecDepth 100000 in
theorem xk_67_0 : xj_chkR prog_5_method_1_code 1 xc_67 0 60 = true := by decide +kernel
set_option maxRecDepth 100000 in
theorem xk_67_1 : xj_chkR prog_5_method_1_code 1 xc_67 60 60 = true := by decide +kernel
set_option maxRecDepth 100000 in
theorem xk_67_2 : xj_chkR prog_5_method_1_code 1 xc_67 120 60 = true := by decide +kernel
set_option maxRecDepth 100000 in
theorem xk_67_3 : xj_chkR prog_5_method_1_code 1 xc_67 180 60 = true := by decide +kernel
set_option maxRecDepth 100000 in
theorem xk_67_4 : xj_chkR prog_5_method_1_code 1 xc_67 240 23 = true := by decide +kernel
set_option maxRecDepth 100000 in
theorem xk_68 : xj_chk prog_5_method_2_code 1 xc_68 5 = true := by decide +kernel
set_option maxRecDepth 100000 in
theorem xk_69 : xj_chk prog_5_method_3_code 2 xc_69 7 = true := by decide +kernel
set_option maxRecDepth 100000 in
theorem xk_70 : xj_chk prog_5_method_4_code 2 xc_70 15 = true := by decide +kernel
