set_option maxRecDepth 100000 in
theorem xk_10 : xj_chk prog_3_method_1_code 1 xc_10 120 = true := by decide +kernel
set_option maxRecDepth 100000 in
theorem xk_11 : xj_chk prog_3_method_2_code 2 xc_11 8 = true := by decide +kernel
set_option maxRecDepth 100000 in
theorem xk_12 : xj_chk prog_3_method_3_code 2 xc_12 18 = true := by decide +kernel
set_option maxRecDepth 100000 in
theorem xk_13 : xj_chk prog_3_method_4_code 2 xc_13 23 = true := by decide +kernel
set_option maxRecDepth 100000 in
theorem xk_14 : xj_chk prog_3_method_5_code 3 xc_14 17 = true := by decide +kernel
set_option maxRecDepth 100000 in
theorem xk_15 : xj_chk prog_3_method_6_code 3 xc_15 39 = true := by decide +kernel
set_option maxRecDepth 100000 in
theorem xk_16 : xj_chk prog_3_method_7_code 4 xc_16 47 = true := by decide +kernel
set_option maxRecDepth 100000 in
theorem xk_17 : xj_chk prog_3_method_8_code 3 xc_17 53 = true := by decide +kernel
set_option maxRecDepth 100000 in
theorem xk_18 : xj_chk prog_3_method_9_code 5 xc_18 68 = true := by decide +kernel
set_option maxRecDepth 100000 in
theorem xk_19 : xj_chk prog_3_method_10_code 2 xc_19 18 = true := by decide +kernel
set_option maxRecDepth 100000 in
theorem xk_20 : xj_chk prog_3_method_11_code 2 xc_20 24 = true := by decide +kernel
set_option maxRecDepth 100000 in
theorem xk_21 : xj_chk prog_3_method_12_code 4 xc_21 68 = true := by decide +kernel
set_option maxRecDepth 100000 in
theorem xk_22 : xj_chk prog_3_method_13_code 5 xc_22 55 = true := by decide +kernel
set_option maxRecDepth 100000 in
theorem xk_23 : xj_chk prog_3_method_14_code 5 xc_23 23 = true := by decide +kernel
set_option maxRecDepth 100000 in
theorem xk_24 : xj_chk prog_3_method_15_code 7 xc_24 84 = true := by decide +kernel
set_option maxRecDepth 100000 in
theorem xk_25 : xj_chk prog_3_method_16_code 5 xc_25 40 = true := by decide +kernel
set_option maxRecDepth 100000 in
theorem xk_26 : xj_chk prog_3_method_17_code 4 xc_26 90 = true := by decide +kernel
set_option maxRecDepth 100000 in
theorem xk_27 : xj_chk prog_1_method_1_code 1 xc_27 38 = true := by decide +kernel
set_option maxRecDepth 100000 in
theorem xk_28 : xj_chk prog_1_method_2_code 5 xc_28 106 = true := by decide +kernel
set_option maxRecDepth 100000 in
theorem xk_29 : xj_chk prog_1_method_3_code 3 xc_29 64 = true := by decide +kernel
