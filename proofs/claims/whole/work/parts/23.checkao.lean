set_option maxRecDepth 100000 in
theorem xk_53 : xj_chk prog_1_method_27_code 4 xc_53 84 = true := by decide +kernel
set_option maxRecDepth 100000 in
theorem xk_54 : xj_chk prog_1_method_28_code 3 xc_54 78 = true := by decide +kernel
set_option maxRecDepth 100000 in
theorem xk_55 : xj_chk prog_1_method_29_code 2 xc_55 43 = true := by decide +kernel
set_option maxRecDepth 100000 in
theorem xk_56 : xj_chk prog_1_method_30_code 3 xc_56 47 = true := by decide +kernel
set_option maxRecDepth 100000 in
theorem xk_57 : xj_chk prog_1_method_31_code 4 xc_57 41 = true := by decide +kernel
set_option maxRecDepth 100000 in
theorem xk_58 : xj_chk prog_1_method_32_code 4 xc_58 122 = true := by decide +kernel
set_option maxRecDepth 100000 in
theorem xk_59 : xj_chk prog_1_method_33_code 4 xc_59 52 = true := by decide +kernel
set_option maxRecDepth 100000 in
theorem xk_60 : xj_chk prog_1_method_34_code 3 xc_60 26 = true := by decide +kernel
set_option maxRecDepth 100000 in
theorem xk_61 : xj_chk prog_1_method_35_code 3 xc_61 43 = true := by decide +kernel
set_option maxRecDepth 100000 in
theorem xk_62 : xj_chk prog_1_method_36_code 4 xc_62 90 = true := by decide +kernel
set_option maxRecDepth 100000 in
theorem xk_63 : xj_chk prog_1_method_37_code 4 xc_63 48 = true := by decide +kernel
set_option maxRecDepth 100000 in
theorem xk_64 : xj_chk prog_1_method_38_code 5 xc_64 59 = true := by decide +kernel
set_option maxRecDepth 100000 in
theorem xk_65 : xj_chk prog_1_method_39_code 7 xc_65 63 = true := by decide +kernel
set_option maxRecDepth 100000 in
theorem xk_66 : xj_chk prog_1_method_40_code 4 xc_66 57 = true := by decide +kernel
