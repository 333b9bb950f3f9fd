theorem xd_0 {pc nx : Nat} {i : Instr} (ht : xc_0 pc = some (i, nx)) : xj_dec code 7 pc i nx := by
  have hl : pc < 835 := by
    rcases Nat.lt_or_ge pc 835 with h9 | h9
    · exact h9
    · have h8 : xc_0 pc = none := xj_cout h9
      rw [h8] at ht; cases ht
  rcases Nat.lt_or_ge pc 40 with h | h
  · exact xj_chkR_ok xk_0_0 (by omega) (by omega) ht
  rcases Nat.lt_or_ge pc 80 with h | h
  · exact xj_chkR_ok xk_0_1 (by omega) (by omega) ht
  rcases Nat.lt_or_ge pc 120 with h | h
  · exact xj_chkR_ok xk_0_2 (by omega) (by omega) ht
  rcases Nat.lt_or_ge pc 160 with h | h
  · exact xj_chkR_ok xk_0_3 (by omega) (by omega) ht
  rcases Nat.lt_or_ge pc 200 with h | h
  · exact xj_chkR_ok xk_0_4 (by omega) (by omega) ht
  rcases Nat.lt_or_ge pc 240 with h | h
  · exact xj_chkR_ok xk_0_5 (by omega) (by omega) ht
  rcases Nat.lt_or_ge pc 280 with h | h
  · exact xj_chkR_ok xk_0_6 (by omega) (by omega) ht
  rcases Nat.lt_or_ge pc 320 with h | h
  · exact xj_chkR_ok xk_0_7 (by omega) (by omega) ht
  rcases Nat.lt_or_ge pc 360 with h | h
  · exact xj_chkR_ok xk_0_8 (by omega) (by omega) ht
  rcases Nat.lt_or_ge pc 400 with h | h
  · exact xj_chkR_ok xk_0_9 (by omega) (by omega) ht
  rcases Nat.lt_or_ge pc 440 with h | h
  · exact xj_chkR_ok xk_0_10 (by omega) (by omega) ht
  rcases Nat.lt_or_ge pc 480 with h | h
  · exact xj_chkR_ok xk_0_11 (by omega) (by omega) ht
  rcases Nat.lt_or_ge pc 520 with h | h
  · exact xj_chkR_ok xk_0_12 (by omega) (by omega) ht
  rcases Nat.lt_or_ge pc 560 with h | h
  · exact xj_chkR_ok xk_0_13 (by omega) (by omega) ht
  rcases Nat.lt_or_ge pc 600 with h | h
  · exact xj_chkR_ok xk_0_14 (by omega) (by omega) ht
  rcases Nat.lt_or_ge pc 640 with h | h
  · exact xj_chkR_ok xk_0_15 (by omega) (by omega) ht
  rcases Nat.lt_or_ge pc 680 with h | h
  · exact xj_chkR_ok xk_0_16 (by omega) (by omega) ht
  rcases Nat.lt_or_ge pc 720 with h | h
  · exact xj_chkR_ok xk_0_17 (by omega) (by omega) ht
  rcases Nat.lt_or_ge pc 760 with h | h
  · exact xj_chkR_ok xk_0_18 (by omega) (by omega) ht
  rcases Nat.lt_or_ge pc 800 with h | h
  · exact xj_chkR_ok xk_0_19 (by omega) (by omega) ht
  exact xj_chkR_ok xk_0_20 (by omega) (by omega) ht
theorem xd_1 {pc nx : Nat} {i : Instr} (ht : xc_1 pc = some (i, nx)) : xj_dec prog_9_method_50_code 3 pc i nx := xj_chk_ok xk_1 (fun _ h => xj_cout h) ht
theorem xd_2 {pc nx : Nat} {i : Instr} (ht : xc_2 pc = some (i, nx)) : xj_dec prog_2_method_1_code 1 pc i nx := xj_chk_ok xk_2 (fun _ h => xj_cout h) ht
theorem xd_3 {pc nx : Nat} {i : Instr} (ht : xc_3 pc = some (i, nx)) : xj_dec prog_2_method_2_code 1 pc i nx := xj_chk_ok xk_3 (fun _ h => xj_cout h) ht
theorem xd_4 {pc nx : Nat} {i : Instr} (ht : xc_4 pc = some (i, nx)) : xj_dec prog_2_method_3_code 2 pc i nx := xj_chk_ok xk_4 (fun _ h => xj_cout h) ht
theorem xd_5 {pc nx : Nat} {i : Instr} (ht : xc_5 pc = some (i, nx)) : xj_dec prog_2_method_4_code 2 pc i nx := xj_chk_ok xk_5 (fun _ h => xj_cout h) ht
theorem xd_6 {pc nx : Nat} {i : Instr} (ht : xc_6 pc = some (i, nx)) : xj_dec prog_2_method_5_code 2 pc i nx := xj_chk_ok xk_6 (fun _ h => xj_cout h) ht
theorem xd_7 {pc nx : Nat} {i : Instr} (ht : xc_7 pc = some (i, nx)) : xj_dec prog_2_method_6_code 3 pc i nx := xj_chk_ok xk_7 (fun _ h => xj_cout h) ht
theorem xd_8 {pc nx : Nat} {i : Instr} (ht : xc_8 pc = some (i, nx)) : xj_dec prog_2_method_7_code 4 pc i nx := xj_chk_ok xk_8 (fun _ h => xj_cout h) ht
theorem xd_9 {pc nx : Nat} {i : Instr} (ht : xc_9 pc = some (i, nx)) : xj_dec prog_2_method_8_code 2 pc i nx := xj_chk_ok xk_9 (fun _ h => xj_cout h) ht
theorem xd_10 {pc nx : Nat} {i : Instr} (ht : xc_10 pc = some (i, nx)) : xj_dec prog_3_method_1_code 1 pc i nx := xj_chk_ok xk_10 (fun _ h => xj_cout h) ht
theorem xd_11 {pc nx : Nat} {i : Instr} (ht : xc_11 pc = some (i, nx)) : xj_dec prog_3_method_2_code 2 pc i nx := xj_chk_ok xk_11 (fun _ h => xj_cout h) ht
theorem xd_12 {pc nx : Nat} {i : Instr} (ht : xc_12 pc = some (i, nx)) : xj_dec prog_3_method_3_code 2 pc i nx := xj_chk_ok xk_12 (fun _ h => xj_cout h) ht
theorem xd_13 {pc nx : Nat} {i : Instr} (ht : xc_13 pc = some (i, nx)) : xj_dec prog_3_method_4_code 2 pc i nx := xj_chk_ok xk_13 (fun _ h => xj_cout h) ht
theorem xd_14 {pc nx : Nat} {i : Instr} (ht : xc_14 pc = some (i, nx)) : xj_dec prog_3_method_5_code 3 pc i nx := xj_chk_ok xk_14 (fun _ h => xj_cout h) ht
theorem xd_15 {pc nx : Nat} {i : Instr} (ht : xc_15 pc = some (i, nx)) : xj_dec prog_3_method_6_code 3 pc i nx := xj_chk_ok xk_15 (fun _ h => xj_cout h) ht
theorem xd_16 {pc nx : Nat} {i : Instr} (ht : xc_16 pc = some (i, nx)) : xj_dec prog_3_method_7_code 4 pc i nx := xj_chk_ok xk_16 (fun _ h => xj_cout h) ht
theorem xd_17 {pc nx : Nat} {i : Instr} (ht : xc_17 pc = some (i, nx)) : xj_dec prog_3_method_8_code 3 pc i nx := xj_chk_ok xk_17 (fun _ h => xj_cout h) ht
theorem xd_18 {pc nx : Nat} {i : Instr} (ht : xc_18 pc = some (i, nx)) : xj_dec prog_3_method_9_code 5 pc i nx := xj_chk_ok xk_18 (fun _ h => xj_cout h) ht
theorem xd_19 {pc nx : Nat} {i : Instr} (ht : xc_19 pc = some (i, nx)) : xj_dec prog_3_method_10_code 2 pc i nx := xj_chk_ok xk_19 (fun _ h => xj_cout h) ht
theorem xd_20 {pc nx : Nat} {i : Instr} (ht : xc_20 pc = some (i, nx)) : xj_dec prog_3_method_11_code 2 pc i nx := xj_chk_ok xk_20 (fun _ h => xj_cout h) ht
theorem xd_21 {pc nx : Nat} {i : Instr} (ht : xc_21 pc = some (i, nx)) : xj_dec prog_3_method_12_code 4 pc i nx := xj_chk_ok xk_21 (fun _ h => xj_cout h) ht
theorem xd_22 {pc nx : Nat} {i : Instr} (ht : xc_22 pc = some (i, nx)) : xj_dec prog_3_method_13_code 5 pc i nx := xj_chk_ok xk_22 (fun _ h => xj_cout h) ht
theorem xd_23 {pc nx : Nat} {i : Instr} (ht : xc_23 pc = some (i, nx)) : xj_dec prog_3_method_14_code 5 pc i nx := xj_chk_ok xk_23 (fun _ h => xj_cout h) ht
theorem xd_24 {pc nx : Nat} {i : Instr} (ht : xc_24 pc = some (i, nx)) : xj_dec prog_3_method_15_code 7 pc i nx := xj_chk_ok xk_24 (fun _ h => xj_cout h) ht
theorem xd_25 {pc nx : Nat} {i : Instr} (ht : xc_25 pc = some (i, nx)) : xj_dec prog_3_method_16_code 5 pc i nx := xj_chk_ok xk_25 (fun _ h => xj_cout h) ht
theorem xd_26 {pc nx : Nat} {i : Instr} (ht : xc_26 pc = some (i, nx)) : xj_dec prog_3_method_17_code 4 pc i nx := xj_chk_ok xk_26 (fun _ h => xj_cout h) ht
theorem xd_27 {pc nx : Nat} {i : Instr} (ht : xc_27 pc = some (i, nx)) : xj_dec prog_1_method_1_code 1 pc i nx := xj_chk_ok xk_27 (fun _ h => xj_cout h) ht
theorem xd_28 {pc nx : Nat} {i : Instr} (ht : xc_28 pc = some (i, nx)) : xj_dec prog_1_method_2_code 5 pc i nx := xj_chk_ok xk_28 (fun _ h => xj_cout h) ht
theorem xd_29 {pc nx : Nat} {i : Instr} (ht : xc_29 pc = some (i, nx)) : xj_dec prog_1_method_3_code 3 pc i nx := xj_chk_ok xk_29 (fun _ h => xj_cout h) ht
theorem xd_30 {pc nx : Nat} {i : Instr} (ht : xc_30 pc = some (i, nx)) : xj_dec prog_1_method_4_code 4 pc i nx := xj_chk_ok xk_30 (fun _ h => xj_cout h) ht
theorem xd_31 {pc nx : Nat} {i : Instr} (ht : xc_31 pc = some (i, nx)) : xj_dec prog_1_method_5_code 5 pc i nx := xj_chk_ok xk_31 (fun _ h => xj_cout h) ht
theorem xd_32 {pc nx : Nat} {i : Instr} (ht : xc_32 pc = some (i, nx)) : xj_dec prog_1_method_6_code 2 pc i nx := xj_chk_ok xk_32 (fun _ h => xj_cout h) ht
theorem xd_33 {pc nx : Nat} {i : Instr} (ht : xc_33 pc = some (i, nx)) : xj_dec prog_1_method_7_code 3 pc i nx := xj_chk_ok xk_33 (fun _ h => xj_cout h) ht
theorem xd_34 {pc nx : Nat} {i : Instr} (ht : xc_34 pc = some (i, nx)) : xj_dec prog_1_method_8_code 3 pc i nx := xj_chk_ok xk_34 (fun _ h => xj_cout h) ht
theorem xd_35 {pc nx : Nat} {i : Instr} (ht : xc_35 pc = some (i, nx)) : xj_dec prog_1_method_9_code 2 pc i nx := xj_chk_ok xk_35 (fun _ h => xj_cout h) ht
theorem xd_36 {pc nx : Nat} {i : Instr} (ht : xc_36 pc = some (i, nx)) : xj_dec prog_1_method_10_code 1 pc i nx := xj_chk_ok xk_36 (fun _ h => xj_cout h) ht
theorem xd_37 {pc nx : Nat} {i : Instr} (ht : xc_37 pc = some (i, nx)) : xj_dec prog_1_method_11_code 3 pc i nx := xj_chk_ok xk_37 (fun _ h => xj_cout h) ht
theorem xd_38 {pc nx : Nat} {i : Instr} (ht : xc_38 pc = some (i, nx)) : xj_dec prog_1_method_12_code 4 pc i nx := xj_chk_ok xk_38 (fun _ h => xj_cout h) ht
theorem xd_39 {pc nx : Nat} {i : Instr} (ht : xc_39 pc = some (i, nx)) : xj_dec prog_1_method_13_code 3 pc i nx := xj_chk_ok xk_39 (fun _ h => xj_cout h) ht
theorem xd_40 {pc nx : Nat} {i : Instr} (ht : xc_40 pc = some (i, nx)) : xj_dec prog_1_method_14_code 1 pc i nx := xj_chk_ok xk_40 (fun _ h => xj_cout h) ht
theorem xd_41 {pc nx : Nat} {i : Instr} (ht : xc_41 pc = some (i, nx)) : xj_dec prog_1_method_15_code 4 pc i nx := xj_chk_ok xk_41 (fun _ h => xj_cout h) ht
theorem xd_42 {pc nx : Nat} {i : Instr} (ht : xc_42 pc = some (i, nx)) : xj_dec prog_1_method_16_code 1 pc i nx := xj_chk_ok xk_42 (fun _ h => xj_cout h) ht
theorem xd_43 {pc nx : Nat} {i : Instr} (ht : xc_43 pc = some (i, nx)) : xj_dec prog_1_method_17_code 1 pc i nx := xj_chk_ok xk_43 (fun _ h => xj_cout h) ht
theorem xd_44 {pc nx : Nat} {i : Instr} (ht : xc_44 pc = some (i, nx)) : xj_dec prog_1_method_18_code 3 pc i nx := xj_chk_ok xk_44 (fun _ h => xj_cout h) ht
theorem xd_45 {pc nx : Nat} {i : Instr} (ht : xc_45 pc = some (i, nx)) : xj_dec prog_1_method_19_code 5 pc i nx := by
  have hl : pc < 197 := by
    rcases Nat.lt_or_ge pc 197 with h9 | h9
    · exact h9
    · have h8 : xc_45 pc = none := xj_cout h9
      rw [h8] at ht; cases ht
  rcases Nat.lt_or_ge pc 60 with h | h
  · exact xj_chkR_ok xk_45_0 (by omega) (by omega) ht
  rcases Nat.lt_or_ge pc 120 with h | h
  · exact xj_chkR_ok xk_45_1 (by omega) (by omega) ht
  rcases Nat.lt_or_ge pc 180 with h | h
  · exact xj_chkR_ok xk_45_2 (by omega) (by omega) ht
  exact xj_chkR_ok xk_45_3 (by omega) (by omega) ht
theorem xd_46 {pc nx : Nat} {i : Instr} (ht : xc_46 pc = some (i, nx)) : xj_dec prog_1_method_20_code 3 pc i nx := xj_chk_ok xk_46 (fun _ h => xj_cout h) ht
theorem xd_47 {pc nx : Nat} {i : Instr} (ht : xc_47 pc = some (i, nx)) : xj_dec prog_1_method_21_code 1 pc i nx := xj_chk_ok xk_47 (fun _ h => xj_cout h) ht
theorem xd_48 {pc nx : Nat} {i : Instr} (ht : xc_48 pc = some (i, nx)) : xj_dec prog_1_method_22_code 5 pc i nx := xj_chk_ok xk_48 (fun _ h => xj_cout h) ht
theorem xd_49 {pc nx : Nat} {i : Instr} (ht : xc_49 pc = some (i, nx)) : xj_dec prog_1_method_23_code 2 pc i nx := xj_chk_ok xk_49 (fun _ h => xj_cout h) ht
theorem xd_50 {pc nx : Nat} {i : Instr} (ht : xc_50 pc = some (i, nx)) : xj_dec prog_1_method_24_code 3 pc i nx := xj_chk_ok xk_50 (fun _ h => xj_cout h) ht
theorem xd_51 {pc nx : Nat} {i : Instr} (ht : xc_51 pc = some (i, nx)) : xj_dec prog_1_method_25_code 2 pc i nx := xj_chk_ok xk_51 (fun _ h => xj_cout h) ht
theorem xd_52 {pc nx : Nat} {i : Instr} (ht : xc_52 pc = some (i, nx)) : xj_dec prog_1_method_26_code 3 pc i nx := xj_chk_ok xk_52 (fun _ h => xj_cout h) ht
theorem xd_53 {pc nx : Nat} {i : Instr} (ht : xc_53 pc = some (i, nx)) : xj_dec prog_1_method_27_code 4 pc i nx := xj_chk_ok xk_53 (fun _ h => xj_cout h) ht
theorem xd_54 {pc nx : Nat} {i : Instr} (ht : xc_54 pc = some (i, nx)) : xj_dec prog_1_method_28_code 3 pc i nx := xj_chk_ok xk_54 (fun _ h => xj_cout h) ht
theorem xd_55 {pc nx : Nat} {i : Instr} (ht : xc_55 pc = some (i, nx)) : xj_dec prog_1_method_29_code 2 pc i nx := xj_chk_ok xk_55 (fun _ h => xj_cout h) ht
theorem xd_56 {pc nx : Nat} {i : Instr} (ht : xc_56 pc = some (i, nx)) : xj_dec prog_1_method_30_code 3 pc i nx := xj_chk_ok xk_56 (fun _ h => xj_cout h) ht
theorem xd_57 {pc nx : Nat} {i : Instr} (ht : xc_57 pc = some (i, nx)) : xj_dec prog_1_method_31_code 4 pc i nx := xj_chk_ok xk_57 (fun _ h => xj_cout h) ht
theorem xd_58 {pc nx : Nat} {i : Instr} (ht : xc_58 pc = some (i, nx)) : xj_dec prog_1_method_32_code 4 pc i nx := xj_chk_ok xk_58 (fun _ h => xj_cout h) ht
theorem xd_59 {pc nx : Nat} {i : Instr} (ht : xc_59 pc = some (i, nx)) : xj_dec prog_1_method_33_code 4 pc i nx := xj_chk_ok xk_59 (fun _ h => xj_cout h) ht
theorem xd_60 {pc nx : Nat} {i : Instr} (ht : xc_60 pc = some (i, nx)) : xj_dec prog_1_method_34_code 3 pc i nx := xj_chk_ok xk_60 (fun _ h => xj_cout h) ht
theorem xd_61 {pc nx : Nat} {i : Instr} (ht : xc_61 pc = some (i, nx)) : xj_dec prog_1_method_35_code 3 pc i nx := xj_chk_ok xk_61 (fun _ h => xj_cout h) ht
theorem xd_62 {pc nx : Nat} {i : Instr} (ht : xc_62 pc = some (i, nx)) : xj_dec prog_1_method_36_code 4 pc i nx := xj_chk_ok xk_62 (fun _ h => xj_cout h) ht
theorem xd_63 {pc nx : Nat} {i : Instr} (ht : xc_63 pc = some (i, nx)) : xj_dec prog_1_method_37_code 4 pc i nx := xj_chk_ok xk_63 (fun _ h => xj_cout h) ht
theorem xd_64 {pc nx : Nat} {i : Instr} (ht : xc_64 pc = some (i, nx)) : xj_dec prog_1_method_38_code 5 pc i nx := xj_chk_ok xk_64 (fun _ h => xj_cout h) ht
theorem xd_65 {pc nx : Nat} {i : Instr} (ht : xc_65 pc = some (i, nx)) : xj_dec prog_1_method_39_code 7 pc i nx := xj_chk_ok xk_65 (fun _ h => xj_cout h) ht
theorem xd_66 {pc nx : Nat} {i : Instr} (ht : xc_66 pc = some (i, nx)) : xj_dec prog_1_method_40_code 4 pc i nx := xj_chk_ok xk_66 (fun _ h => xj_cout h) ht
theorem xd_67 {pc nx : Nat} {i : Instr} (ht : xc_67 pc = some (i, nx)) : xj_dec prog_5_method_1_code 1 pc i nx := by
  have hl : pc < 263 := by
    rcases Nat.lt_or_ge pc 263 with h9 | h9
    · exact h9
    · have h8 : xc_67 pc = none := xj_cout h9
      rw [h8] at ht; cases ht
  rcases Nat.lt_or_ge pc 60 with h | h
  · exact xj_chkR_ok xk_67_0 (by omega) (by omega) ht
  rcases Nat.lt_or_ge pc 120 with h | h
  · exact xj_chkR_ok xk_67_1 (by omega) (by omega) ht
  rcases Nat.lt_or_ge pc 180 with h | h
  · exact xj_chkR_ok xk_67_2 (by omega) (by omega) ht
  rcases Nat.lt_or_ge pc 240 with h | h
  · exact xj_chkR_ok xk_67_3 (by omega) (by omega) ht
  exact xj_chkR_ok xk_67_4 (by omega) (by omega) ht
theorem xd_68 {pc nx : Nat} {i : Instr} (ht : xc_68 pc = some (i, nx)) : xj_dec prog_5_method_2_code 1 pc i nx := xj_chk_ok xk_68 (fun _ h => xj_cout h) ht
theorem xd_69 {pc nx : Nat} {i : Instr} (ht : xc_69 pc = some (i, nx)) : xj_dec prog_5_method_3_code 2 pc i nx := xj_chk_ok xk_69 (fun _ h => xj_cout h) ht
theorem xd_70 {pc nx : Nat} {i : Instr} (ht : xc_70 pc = some (i, nx)) : xj_dec prog_5_method_4_code 2 pc i nx := xj_chk_ok xk_70 (fun _ h => xj_cout h) ht
theorem xd_71 {pc nx : Nat} {i : Instr} (ht : xc_71 pc = some (i, nx)) : xj_dec prog_5_method_5_code 4 pc i nx := xj_chk_ok xk_71 (fun _ h => xj_cout h) ht
theorem xd_72 {pc nx : Nat} {i : Instr} (ht : xc_72 pc = some (i, nx)) : xj_dec prog_5_method_6_code 3 pc i nx := xj_chk_ok xk_72 (fun _ h => xj_cout h) ht
theorem xd_73 {pc nx : Nat} {i : Instr} (ht : xc_73 pc = some (i, nx)) : xj_dec prog_5_method_7_code 2 pc i nx := xj_chk_ok xk_73 (fun _ h => xj_cout h) ht
theorem xd_74 {pc nx : Nat} {i : Instr} (ht : xc_74 pc = some (i, nx)) : xj_dec prog_5_method_8_code 6 pc i nx := by
  have hl : pc < 186 := by
    rcases Nat.lt_or_ge pc 186 with h9 | h9
    · exact h9
    · have h8 : xc_74 pc = none := xj_cout h9
      rw [h8] at ht; cases ht
  rcases Nat.lt_or_ge pc 60 with h | h
  · exact xj_chkR_ok xk_74_0 (by omega) (by omega) ht
  rcases Nat.lt_or_ge pc 120 with h | h
  · exact xj_chkR_ok xk_74_1 (by omega) (by omega) ht
  rcases Nat.lt_or_ge pc 180 with h | h
  · exact xj_chkR_ok xk_74_2 (by omega) (by omega) ht
  exact xj_chkR_ok xk_74_3 (by omega) (by omega) ht
theorem xd_75 {pc nx : Nat} {i : Instr} (ht : xc_75 pc = some (i, nx)) : xj_dec prog_5_method_9_code 5 pc i nx := xj_chk_ok xk_75 (fun _ h => xj_cout h) ht
theorem xd_76 {pc nx : Nat} {i : Instr} (ht : xc_76 pc = some (i, nx)) : xj_dec prog_5_method_10_code 2 pc i nx := xj_chk_ok xk_76 (fun _ h => xj_cout h) ht
theorem xd_77 {pc nx : Nat} {i : Instr} (ht : xc_77 pc = some (i, nx)) : xj_dec prog_5_method_11_code 2 pc i nx := xj_chk_ok xk_77 (fun _ h => xj_cout h) ht
theorem xd_78 {pc nx : Nat} {i : Instr} (ht : xc_78 pc = some (i, nx)) : xj_dec prog_5_method_12_code 3 pc i nx := xj_chk_ok xk_78 (fun _ h => xj_cout h) ht
theorem xd_79 {pc nx : Nat} {i : Instr} (ht : xc_79 pc = some (i, nx)) : xj_dec prog_5_method_13_code 4 pc i nx := xj_chk_ok xk_79 (fun _ h => xj_cout h) ht
theorem xd_80 {pc nx : Nat} {i : Instr} (ht : xc_80 pc = some (i, nx)) : xj_dec prog_5_method_14_code 2 pc i nx := xj_chk_ok xk_80 (fun _ h => xj_cout h) ht
theorem xd_81 {pc nx : Nat} {i : Instr} (ht : xc_81 pc = some (i, nx)) : xj_dec prog_5_method_15_code 3 pc i nx := xj_chk_ok xk_81 (fun _ h => xj_cout h) ht
theorem xd_82 {pc nx : Nat} {i : Instr} (ht : xc_82 pc = some (i, nx)) : xj_dec prog_5_method_16_code 7 pc i nx := xj_chk_ok xk_82 (fun _ h => xj_cout h) ht
theorem xd_83 {pc nx : Nat} {i : Instr} (ht : xc_83 pc = some (i, nx)) : xj_dec prog_5_method_17_code 4 pc i nx := xj_chk_ok xk_83 (fun _ h => xj_cout h) ht
theorem xd_84 {pc nx : Nat} {i : Instr} (ht : xc_84 pc = some (i, nx)) : xj_dec prog_5_method_18_code 1 pc i nx := xj_chk_ok xk_84 (fun _ h => xj_cout h) ht
theorem xd_85 {pc nx : Nat} {i : Instr} (ht : xc_85 pc = some (i, nx)) : xj_dec prog_5_method_19_code 5 pc i nx := by
  have hl : pc < 166 := by
    rcases Nat.lt_or_ge pc 166 with h9 | h9
    · exact h9
    · have h8 : xc_85 pc = none := xj_cout h9
      rw [h8] at ht; cases ht
  rcases Nat.lt_or_ge pc 60 with h | h
  · exact xj_chkR_ok xk_85_0 (by omega) (by omega) ht
  rcases Nat.lt_or_ge pc 120 with h | h
  · exact xj_chkR_ok xk_85_1 (by omega) (by omega) ht
  exact xj_chkR_ok xk_85_2 (by omega) (by omega) ht
theorem xd_86 {pc nx : Nat} {i : Instr} (ht : xc_86 pc = some (i, nx)) : xj_dec prog_5_method_20_code 3 pc i nx := xj_chk_ok xk_86 (fun _ h => xj_cout h) ht
theorem xd_87 {pc nx : Nat} {i : Instr} (ht : xc_87 pc = some (i, nx)) : xj_dec prog_5_method_21_code 3 pc i nx := xj_chk_ok xk_87 (fun _ h => xj_cout h) ht
theorem xd_88 {pc nx : Nat} {i : Instr} (ht : xc_88 pc = some (i, nx)) : xj_dec prog_5_method_22_code 6 pc i nx := by
  have hl : pc < 167 := by
    rcases Nat.lt_or_ge pc 167 with h9 | h9
    · exact h9
    · have h8 : xc_88 pc = none := xj_cout h9
      rw [h8] at ht; cases ht
  rcases Nat.lt_or_ge pc 60 with h | h
  · exact xj_chkR_ok xk_88_0 (by omega) (by omega) ht
  rcases Nat.lt_or_ge pc 120 with h | h
  · exact xj_chkR_ok xk_88_1 (by omega) (by omega) ht
  exact xj_chkR_ok xk_88_2 (by omega) (by omega) ht
theorem xd_89 {pc nx : Nat} {i : Instr} (ht : xc_89 pc = some (i, nx)) : xj_dec prog_5_method_23_code 5 pc i nx := xj_chk_ok xk_89 (fun _ h => xj_cout h) ht
theorem xd_90 {pc nx : Nat} {i : Instr} (ht : xc_90 pc = some (i, nx)) : xj_dec prog_5_method_24_code 5 pc i nx := xj_chk_ok xk_90 (fun _ h => xj_cout h) ht
theorem xd_91 {pc nx : Nat} {i : Instr} (ht : xc_91 pc = some (i, nx)) : xj_dec prog_5_method_25_code 5 pc i nx := xj_chk_ok xk_91 (fun _ h => xj_cout h) ht
theorem xd_92 {pc nx : Nat} {i : Instr} (ht : xc_92 pc = some (i, nx)) : xj_dec prog_5_method_26_code 4 pc i nx := xj_chk_ok xk_92 (fun _ h => xj_cout h) ht
theorem xd_93 {pc nx : Nat} {i : Instr} (ht : xc_93 pc = some (i, nx)) : xj_dec prog_5_method_27_code 2 pc i nx := xj_chk_ok xk_93 (fun _ h => xj_cout h) ht
theorem xd_94 {pc nx : Nat} {i : Instr} (ht : xc_94 pc = some (i, nx)) : xj_dec prog_5_method_28_code 2 pc i nx := xj_chk_ok xk_94 (fun _ h => xj_cout h) ht
theorem xd_95 {pc nx : Nat} {i : Instr} (ht : xc_95 pc = some (i, nx)) : xj_dec prog_5_method_29_code 2 pc i nx := xj_chk_ok xk_95 (fun _ h => xj_cout h) ht
theorem xd_96 {pc nx : Nat} {i : Instr} (ht : xc_96 pc = some (i, nx)) : xj_dec prog_5_method_30_code 2 pc i nx := xj_chk_ok xk_96 (fun _ h => xj_cout h) ht
theorem xd_97 {pc nx : Nat} {i : Instr} (ht : xc_97 pc = some (i, nx)) : xj_dec prog_5_method_31_code 3 pc i nx := xj_chk_ok xk_97 (fun _ h => xj_cout h) ht
theorem xd_98 {pc nx : Nat} {i : Instr} (ht : xc_98 pc = some (i, nx)) : xj_dec prog_5_method_32_code 2 pc i nx := by
  have hl : pc < 164 := by
    rcases Nat.lt_or_ge pc 164 with h9 | h9
    · exact h9
    · have h8 : xc_98 pc = none := xj_cout h9
      rw [h8] at ht; cases ht
  rcases Nat.lt_or_ge pc 60 with h | h
  · exact xj_chkR_ok xk_98_0 (by omega) (by omega) ht
  rcases Nat.lt_or_ge pc 120 with h | h
  · exact xj_chkR_ok xk_98_1 (by omega) (by omega) ht
  exact xj_chkR_ok xk_98_2 (by omega) (by omega) ht
theorem xd_99 {pc nx : Nat} {i : Instr} (ht : xc_99 pc = some (i, nx)) : xj_dec prog_5_method_33_code 2 pc i nx := xj_chk_ok xk_99 (fun _ h => xj_cout h) ht
theorem xd_100 {pc nx : Nat} {i : Instr} (ht : xc_100 pc = some (i, nx)) : xj_dec prog_5_method_34_code 2 pc i nx := xj_chk_ok xk_100 (fun _ h => xj_cout h) ht
theorem xd_101 {pc nx : Nat} {i : Instr} (ht : xc_101 pc = some (i, nx)) : xj_dec prog_5_method_35_code 3 pc i nx := xj_chk_ok xk_101 (fun _ h => xj_cout h) ht
theorem xd_102 {pc nx : Nat} {i : Instr} (ht : xc_102 pc = some (i, nx)) : xj_dec prog_5_method_36_code 5 pc i nx := by
  have hl : pc < 217 := by
    rcases Nat.lt_or_ge pc 217 with h9 | h9
    · exact h9
    · have h8 : xc_102 pc = none := xj_cout h9
      rw [h8] at ht; cases ht
  rcases Nat.lt_or_ge pc 60 with h | h
  · exact xj_chkR_ok xk_102_0 (by omega) (by omega) ht
  rcases Nat.lt_or_ge pc 120 with h | h
  · exact xj_chkR_ok xk_102_1 (by omega) (by omega) ht
  rcases Nat.lt_or_ge pc 180 with h | h
  · exact xj_chkR_ok xk_102_2 (by omega) (by omega) ht
  exact xj_chkR_ok xk_102_3 (by omega) (by omega) ht
theorem xd_103 {pc nx : Nat} {i : Instr} (ht : xc_103 pc = some (i, nx)) : xj_dec prog_5_method_37_code 3 pc i nx := xj_chk_ok xk_103 (fun _ h => xj_cout h) ht
theorem xd_104 {pc nx : Nat} {i : Instr} (ht : xc_104 pc = some (i, nx)) : xj_dec prog_5_method_38_code 3 pc i nx := xj_chk_ok xk_104 (fun _ h => xj_cout h) ht
theorem xd_105 {pc nx : Nat} {i : Instr} (ht : xc_105 pc = some (i, nx)) : xj_dec prog_5_method_39_code 3 pc i nx := xj_chk_ok xk_105 (fun _ h => xj_cout h) ht
theorem xd_106 {pc nx : Nat} {i : Instr} (ht : xc_106 pc = some (i, nx)) : xj_dec prog_5_method_40_code 5 pc i nx := xj_chk_ok xk_106 (fun _ h => xj_cout h) ht
theorem xd_107 {pc nx : Nat} {i : Instr} (ht : xc_107 pc = some (i, nx)) : xj_dec prog_5_method_41_code 3 pc i nx := xj_chk_ok xk_107 (fun _ h => xj_cout h) ht
theorem xd_108 {pc nx : Nat} {i : Instr} (ht : xc_108 pc = some (i, nx)) : xj_dec prog_5_method_42_code 2 pc i nx := xj_chk_ok xk_108 (fun _ h => xj_cout h) ht
theorem xd_109 {pc nx : Nat} {i : Instr} (ht : xc_109 pc = some (i, nx)) : xj_dec prog_5_method_43_code 1 pc i nx := xj_chk_ok xk_109 (fun _ h => xj_cout h) ht
theorem xd_110 {pc nx : Nat} {i : Instr} (ht : xc_110 pc = some (i, nx)) : xj_dec prog_5_method_44_code 3 pc i nx := xj_chk_ok xk_110 (fun _ h => xj_cout h) ht
theorem xd_111 {pc nx : Nat} {i : Instr} (ht : xc_111 pc = some (i, nx)) : xj_dec prog_5_method_45_code 4 pc i nx := xj_chk_ok xk_111 (fun _ h => xj_cout h) ht
theorem xd_112 {pc nx : Nat} {i : Instr} (ht : xc_112 pc = some (i, nx)) : xj_dec prog_5_method_46_code 1 pc i nx := xj_chk_ok xk_112 (fun _ h => xj_cout h) ht
theorem xd_113 {pc nx : Nat} {i : Instr} (ht : xc_113 pc = some (i, nx)) : xj_dec prog_5_method_47_code 4 pc i nx := xj_chk_ok xk_113 (fun _ h => xj_cout h) ht
theorem xd_114 {pc nx : Nat} {i : Instr} (ht : xc_114 pc = some (i, nx)) : xj_dec method_3_code 6 pc i nx := xj_chk_ok xk_114 (fun _ h => xj_cout h) ht
theorem xd_115 {pc nx : Nat} {i : Instr} (ht : xc_115 pc = some (i, nx)) : xj_dec method_4_code 5 pc i nx := xj_chk_ok xk_115 (fun _ h => xj_cout h) ht
theorem xd_116 {pc nx : Nat} {i : Instr} (ht : xc_116 pc = some (i, nx)) : xj_dec method_5_code 6 pc i nx := xj_chk_ok xk_116 (fun _ h => xj_cout h) ht
theorem xd_117 {pc nx : Nat} {i : Instr} (ht : xc_117 pc = some (i, nx)) : xj_dec method_6_code 6 pc i nx := xj_chk_ok xk_117 (fun _ h => xj_cout h) ht
theorem xd_118 {pc nx : Nat} {i : Instr} (ht : xc_118 pc = some (i, nx)) : xj_dec method_7_code 4 pc i nx := xj_chk_ok xk_118 (fun _ h => xj_cout h) ht
theorem xd_119 {pc nx : Nat} {i : Instr} (ht : xc_119 pc = some (i, nx)) : xj_dec method_8_code 5 pc i nx := xj_chk_ok xk_119 (fun _ h => xj_cout h) ht
theorem xd_120 {pc nx : Nat} {i : Instr} (ht : xc_120 pc = some (i, nx)) : xj_dec method_9_code 5 pc i nx := xj_chk_ok xk_120 (fun _ h => xj_cout h) ht
