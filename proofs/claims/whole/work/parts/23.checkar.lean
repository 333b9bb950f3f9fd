set_option maxRecDepth 100000 in
theorem xk_75 : xj_chk prog_5_method_9_code 5 xc_75 78 = true := by decide +kernel
set_option maxRecDepth 100000 in
theorem xk_76 : xj_chk prog_5_method_10_code 2 xc_76 26 = true := by decide +kernel
set_option maxRecDepth 100000 in
theorem xk_77 : xj_chk prog_5_method_11_code 2 xc_77 12 = true := by decide +kernel
set_option maxRecDepth 100000 in
theorem xk_78 : xj_chk prog_5_method_12_code 3 xc_78 22 = true := by decide +kernel
set_option maxRecDepth 100000 in
theorem xk_79 : xj_chk prog_5_method_13_code 4 xc_79 54 = true := by decide +kernel
set_option maxRecDepth 100000 in
theorem xk_80 : xj_chk prog_5_method_14_code 2 xc_80 30 = true := by decide +kernel
set_option maxRecDepth 100000 in
theorem xk_81 : xj_chk prog_5_method_15_code 3 xc_81 76 = true := by decide +kernel
set_option maxRecDepth 100000 in
theorem xk_82 : xj_chk prog_5_method_16_code 7 xc_82 159 = true := by decide +kernel
set_option maxRecDepth 100000 in
theorem xk_83 : xj_chk prog_5_method_17_code 4 xc_83 90 = true := by decide +kernel
set_option maxRecDepth 100000 in
theorem xk_84 : xj_chk prog_5_method_18_code 1 xc_84 65 = true := by decide +kernel
set_option maxRecDepth 100000 in
theorem xk_85_0 : xj_chkR prog_5_method_19_code 5 xc_85 0 60 = true := by decide +kernel
