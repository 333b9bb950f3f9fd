set_option maxRecDepth 100000 in
theorem xk_71 : xj_chk prog_5_method_5_code 4 xc_71 135 = true := by decide +kernel
set_option maxRecDepth 100000 in
theorem xk_72 : xj_chk prog_5_method_6_code 3 xc_72 127 = true := by decide +kernel
set_option maxRecDepth 100000 in
theorem xk_73 : xj_chk prog_5_method_7_code 2 xc_73 18 = true := by decide +kernel
set_option maxRecDepth 100000 in
theorem xk_74_0 : xj_chkR prog_5_method_8_code 6 xc_74 0 60 = true := by decide +kernel
set_option maxRecDepth 100000 in
theorem xk_74_1 : xj_chkR prog_5_method_8_code 6 xc_74 60 60 = true := by decide +kernel
set_option maxRecDepth 100000 in
theorem xk_74_2 : xj_chkR prog_5_method_8_code 6 xc_74 120 60 = true := by decide +kernel
set_option maxRecDepth 100000 in
theorem xk_74_3 : xj_chkR prog_5_method_8_code 6 xc_74 180 6 = true := by decide +kernel
