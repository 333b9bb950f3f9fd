set_option maxRecDepth 100000 in
theorem xk_30 : xj_chk prog_1_method_4_code 4 xc_30 76 = true := by decide +kernel
set_option maxRecDepth 100000 in
theorem xk_31 : xj_chk prog_1_method_5_code 5 xc_31 70 = true := by decide +kernel
set_option maxRecDepth 100000 in
theorem xk_32 : xj_chk prog_1_method_6_code 2 xc_32 72 = true := by decide +kernel
set_option maxRecDepth 100000 in
theorem xk_33 : xj_chk prog_1_method_7_code 3 xc_33 73 = true := by decide +kernel
set_option maxRecDepth 100000 in
theorem xk_34 : xj_chk prog_1_method_8_code 3 xc_34 65 = true := by decide +kernel
set_option maxRecDepth 100000 in
theorem xk_35 : xj_chk prog_1_method_9_code 2 xc_35 21 = true := by decide +kernel
set_option maxRecDepth 100000 in
theorem xk_36 : xj_chk prog_1_method_10_code 1 xc_36 8 = true := by decide +kernel
set_option maxRecDepth 100000 in
theorem xk_37 : xj_chk prog_1_method_11_code 3 xc_37 86 = true := by decide +kernel
set_option maxRecDepth 100000 in
theorem xk_38 : xj_chk prog_1_method_12_code 4 xc_38 68 = true := by decide +kernel
set_option maxRecDepth 100000 in
theorem xk_39 : xj_chk prog_1_method_13_code 3 xc_39 33 = true := by decide +kernel
set_option maxRecDepth 100000 in
theorem xk_40 : xj_chk prog_1_method_14_code 1 xc_40 8 = true := by decide +kernel
set_option maxRecDepth 100000 in
theorem xk_41 : xj_chk prog_1_method_15_code 4 xc_41 86 = true := by decide +kernel
set_option maxRecDepth 100000 in
theorem xk_42 : xj_chk prog_1_method_16_code 1 xc_42 15 = true := by decide +kernel
set_option maxRecDepth 100000 in
theorem xk_43 : xj_chk prog_1_method_17_code 1 xc_43 17 = true := by decide +kernel
set_option maxRecDepth 100000 in
theorem xk_44 : xj_chk prog_1_method_18_code 3 xc_44 23 = true := by decide +kernel
set_option maxRecDepth 100000 in
theorem xk_45_0 : xj_chkR prog_1_method_19_code 5 xc_45 0 60 = true := by decide +kernel
