set_option maxRecDepth 100000 in
theorem xk_102_0 : xj_chkR prog_5_method_36_code 5 xc_102 0 60 = true := by decide +kernel
set_option maxRecDepth 100000 in
theorem xk_102_1 : xj_chkR prog_5_method_36_code 5 xc_102 60 60 = true := by decide +kernel
set_option maxRecDepth 100000 in
theorem xk_102_2 : xj_chkR prog_5_method_36_code 5 xc_102 120 60 = true := by decide +kernel
set_option maxRecDepth 100000 in
theorem xk_102_3 : xj_chkR prog_5_method_36_code 5 xc_102 180 37 = true := by decide +kernel
set_option maxRecDepth 100000 in
theorem xk_103 : xj_chk prog_5_method_37_code 3 xc_103 49 = true := by decide +kernel
set_option maxRecDepth 100000 in
theorem xk_104 : xj_chk prog_5_method_38_code 3 xc_104 35 = true := by decide +kernel
set_option maxRecDepth 100000 in
theorem xk_105 : xj_chk prog_5_method_39_code 3 xc_105 20 = true := by decide +kernel
set_option maxRecDepth 100000 in
theorem xk_106 : xj_chk prog_5_method_40_code 5 xc_106 121 = true := by decide +kernel
