set_option maxRecDepth 100000 in
theorem xk_107 : xj_chk prog_5_method_41_code 3 xc_107 67 = true := by decide +kernel
set_option maxRecDepth 100000 in
theorem xk_108 : xj_chk prog_5_method_42_code 2 xc_108 24 = true := by decide +kernel
set_option maxRecDepth 100000 in
theorem xk_109 : xj_chk prog_5_method_43_code 1 xc_109 10 = true := by decide +kernel
set_option maxRecDepth 100000 in
theorem xk_110 : xj_chk prog_5_method_44_code 3 xc_110 82 = true := by decide +kernel
set_option maxRecDepth 100000 in
theorem xk_111 : xj_chk prog_5_method_45_code 4 xc_111 88 = true := by decide +kernel
set_option maxRecDepth 100000 in
theorem xk_112 : xj_chk prog_5_method_46_code 1 xc_112 10 = true := by decide +kernel
set_option maxRecDepth 100000 in
theorem xk_113 : xj_chk prog_5_method_47_code 4 xc_113 66 = true := by decide +kernel
set_option maxRecDepth 100000 in
theorem xk_114 : xj_chk method_3_code 6 xc_114 25 = true := by decide +kernel
set_option maxRecDepth 100000 in
theorem xk_115 : xj_chk method_4_code 5 xc_115 23 = true := by decide +kernel
set_option maxRecDepth 100000 in
theorem xk_116 : xj_chk method_5_code 6 xc_116 25 = true := by decide +kernel
set_option maxRecDepth 100000 in
theorem xk_117 : xj_chk method_6_code 6 xc_117 22 = true := by decide +kernel
set_option maxRecDepth 100000 in
theorem xk_118 : xj_chk method_7_code 4 xc_118 23 = true := by decide +kernel
set_option maxRecDepth 100000 in
theorem xk_119 : xj_chk method_8_code 5 xc_119 31 = true := by decide +kernel
set_option maxRecDepth 100000 in
theorem xk_120 : xj_chk method_9_code 5 xc_120 23 = true := by decide +kernel
