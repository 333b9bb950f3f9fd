set_option maxRecDepth 100000 in
theorem xk_45_1 : xj_chkR prog_1_method_19_code 5 xc_45 60 60 = true := by decide +kernel
set_option maxRecDepth 100000 in
theorem xk_45_2 : xj_chkR prog_1_method_19_code 5 xc_45 120 60 = true := by decide +kernel
set_option maxRecDepth 100000 in
theorem xk_45_3 : xj_chkR prog_1_method_19_code 5 xc_45 180 17 = true := by decide +kernel
set_option maxRecDepth 100000 in
theorem xk_46 : xj_chk prog_1_method_20_code 3 xc_46 34 = true := by decide +kernel
set_option maxRecDepth 100000 in
theorem xk_47 : xj_chk prog_1_method_21_code 1 xc_47 22 = true := by decide +kernel
set_option maxRecDepth 100000 in
theorem xk_48 : xj_chk prog_1_method_22_code 5 xc_48 106 = true := by decide +kernel
set_option maxRecDepth 100000 in
theorem xk_49 : xj_chk prog_1_method_23_code 2 xc_49 51 = true := by decide +kernel
set_option maxRecDepth 100000 in
theorem xk_50 : xj_chk prog_1_method_24_code 3 xc_50 86 = true := by decide +kernel
set_option maxRecDepth 100000 in
theorem xk_51 : xj_chk prog_1_method_25_code 2 xc_51 72 = true := by decide +kernel
set_option maxRecDepth 100000 in
theorem xk_52 : xj_chk prog_1_method_26_code 3 xc_52 95 = true := by decide +kernel
