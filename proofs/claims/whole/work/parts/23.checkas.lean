set_option maxRecDepth 100000 in
theorem xk_85_1 : xj_chkR prog_5_method_19_code 5 xc_85 60 60 = true := by decide +kernel
set_option maxRecDepth 100000 in
theorem xk_85_2 : xj_chkR prog_5_method_19_code 5 xc_85 120 46 = true := by decide +kernel
set_option maxRecDepth 100000 in
theorem xk_86 : xj_chk prog_5_method_20_code 3 xc_86 52 = true := by decide +kernel
set_option maxRecDepth 100000 in
theorem xk_87 : xj_chk prog_5_method_21_code 3 xc_87 61 = true := by decide +kernel
set_option maxRecDepth 100000 in
theorem xk_88_0 : xj_chkR prog_5_method_22_code 6 xc_88 0 60 = true := by decide +kernel
set_option maxRecDepth 100000 in
theorem xk_88_1 : xj_chkR prog_5_method_22_code 6 xc_88 60 60 = true := by decide +kernel
set_option maxRecDepth 100000 in
theorem xk_88_2 : xj_chkR prog_5_method_22_code 6 xc_88 120 47 = true := by decide +kernel
