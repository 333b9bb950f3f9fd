set_option maxRecDepth 100000 in
theorem xk_89 : xj_chk prog_5_method_23_code 5 xc_89 153 = true := by decide +kernel
set_option maxRecDepth 100000 in
theorem xk_90 : xj_chk prog_5_method_24_code 5 xc_90 69 = true := by decide +kernel
set_option maxRecDepth 100000 in
theorem xk_91 : xj_chk prog_5_method_25_code 5 xc_91 106 = true := by decide +kernel
set_option maxRecDepth 100000 in
theorem xk_92 : xj_chk prog_5_method_26_code 4 xc_92 65 = true := by decide +kernel
set_option maxRecDepth 100000 in
theorem xk_93 : xj_chk prog_5_method_27_code 2 xc_93 45 = true := by decide +kernel
set_option maxRecDepth 100000 in
theorem xk_94 : xj_chk prog_5_method_28_code 2 xc_94 66 = true := by decide +kernel
set_option maxRecDepth 100000 in
theorem xk_95 : xj_chk prog_5_method_29_code 2 xc_95 63 = true := by decide +kernel
set_option maxRecDepth 100000 in
theorem xk_96 : xj_chk prog_5_method_30_code 2 xc_96 79 = true := by decide +kernel
set_option maxRecDepth 100000 in
theorem xk_97 : xj_chk prog_5_method_31_code 3 xc_97 78 = true := by decide +kernel
