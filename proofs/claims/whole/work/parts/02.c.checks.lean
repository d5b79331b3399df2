set_option maxRecDepth 20000 in
theorem zk_0_0 : zt_0_0.all (zok 0 "ProphetFines$Acts" prog_2_method_1_code lk_0 zNW) = true := by decide +kernel
set_option maxRecDepth 20000 in
theorem zk_1_0 : zt_1_0.all (zok 1 "ProphetFines$Acts" prog_2_method_2_code lk_0 zNW) = true := by decide +kernel
set_option maxRecDepth 20000 in
theorem zk_2_0 : zt_2_0.all (zok 2 "ProphetFines$Acts" prog_2_method_3_code lk_0 zNW) = true := by decide +kernel
set_option maxRecDepth 20000 in
theorem zk_3_0 : zt_3_0.all (zok 3 "ProphetFines$Acts" prog_2_method_4_code lk_0 zNW) = true := by decide +kernel
set_option maxRecDepth 20000 in
theorem zk_4_0 : zt_4_0.all (zok 4 "ProphetFines$Asked" prog_3_method_1_code lk_1 zNW) = true := by decide +kernel
set_option maxRecDepth 20000 in
theorem zk_5_0 : zt_5_0.all (zok 5 "ProphetFines$Asked" prog_3_method_2_code lk_1 zNW) = true := by decide +kernel
set_option maxRecDepth 20000 in
theorem zk_6_0 : zt_6_0.all (zok 6 "ProphetFines$Asked" prog_3_method_3_code lk_1 zNW) = true := by decide +kernel
set_option maxRecDepth 20000 in
theorem zk_7_0 : zt_7_0.all (zok 7 "ProphetFines$Asked" prog_3_method_4_code lk_1 zNW) = true := by decide +kernel
set_option maxRecDepth 20000 in
theorem zk_7_1 : zt_7_1.all (zok 7 "ProphetFines$Asked" prog_3_method_4_code lk_1 zNW) = true := by decide +kernel
set_option maxRecDepth 20000 in
theorem zk_8_0 : zt_8_0.all (zok 8 "ProphetFines$Asked" prog_3_method_5_code lk_1 zNW) = true := by decide +kernel
set_option maxRecDepth 20000 in
theorem zk_9_0 : zt_9_0.all (zok 9 "ProphetFines$Foresight" prog_4_method_1_code lk_2 zNW) = true := by decide +kernel
set_option maxRecDepth 20000 in
theorem zk_10_0 : zt_10_0.all (zok 10 "ProphetFines$Foresight" prog_4_method_2_code lk_2 zNW) = true := by decide +kernel
set_option maxRecDepth 20000 in
theorem zk_11_0 : zt_11_0.all (zok 11 "ProphetFines$Foresight" prog_4_method_3_code lk_2 zNW) = true := by decide +kernel
set_option maxRecDepth 20000 in
theorem zk_12_0 : zt_12_0.all (zok 12 "ProphetFines$Foresight" prog_4_method_4_code lk_2 zNW) = true := by decide +kernel
set_option maxRecDepth 20000 in
theorem zk_13_0 : zt_13_0.all (zok 13 "ProphetFines$Foresight" prog_4_method_5_code lk_2 zNW) = true := by decide +kernel
set_option maxRecDepth 20000 in
theorem zk_14_0 : zt_14_0.all (zok 14 "ProphetFines$Foresight" prog_4_method_6_code lk_2 zNW) = true := by decide +kernel
set_option maxRecDepth 20000 in
theorem zk_15_0 : zt_15_0.all (zok 15 "ProphetFines$Foresight" prog_4_method_7_code lk_2 zNW) = true := by decide +kernel
set_option maxRecDepth 20000 in
theorem zk_16_0 : zt_16_0.all (zok 16 "ProphetFines$Foresight" prog_4_method_8_code lk_2 zNW) = true := by decide +kernel
set_option maxRecDepth 20000 in
theorem zk_17_0 : zt_17_0.all (zok 17 "ProphetFines$Foresight" prog_4_method_9_code lk_2 zNW) = true := by decide +kernel
set_option maxRecDepth 20000 in
theorem zk_18_0 : zt_18_0.all (zok 18 "ProphetFines$Foresight" prog_4_method_10_code lk_2 zNW) = true := by decide +kernel
set_option maxRecDepth 20000 in
theorem zk_19_0 : zt_19_0.all (zok 19 "ProphetFines$Foresight" prog_4_method_11_code lk_2 zNW) = true := by decide +kernel
set_option maxRecDepth 20000 in
theorem zk_20_0 : zt_20_0.all (zok 20 "ProphetFines$Foresight" prog_4_method_12_code lk_2 zNW) = true := by decide +kernel
set_option maxRecDepth 20000 in
theorem zk_21_0 : zt_21_0.all (zok 21 "ProphetFines$Foresight" prog_4_method_13_code lk_2 zNW) = true := by decide +kernel
set_option maxRecDepth 20000 in
theorem zk_22_0 : zt_22_0.all (zok 22 "ProphetFines$Foresight" prog_4_method_14_code lk_2 zNW) = true := by decide +kernel
set_option maxRecDepth 20000 in
theorem zk_23_0 : zt_23_0.all (zok 23 "ProphetFines$Foresight" prog_4_method_15_code lk_2 zNW) = true := by decide +kernel
set_option maxRecDepth 20000 in
theorem zk_24_0 : zt_24_0.all (zok 24 "ProphetFines$Foresight" prog_4_method_16_code lk_2 zNW) = true := by decide +kernel
set_option maxRecDepth 20000 in
theorem zk_25_0 : zt_25_0.all (zok 25 "ProphetFines$Foresight" prog_4_method_17_code lk_2 zNW) = true := by decide +kernel
set_option maxRecDepth 20000 in
theorem zk_25_1 : zt_25_1.all (zok 25 "ProphetFines$Foresight" prog_4_method_17_code lk_2 zNW) = true := by decide +kernel
set_option maxRecDepth 20000 in
theorem zk_26_0 : zt_26_0.all (zok 26 "ProphetFines$Foresight" prog_4_method_18_code lk_2 zNW) = true := by decide +kernel
set_option maxRecDepth 20000 in
theorem zk_27_0 : zt_27_0.all (zok 27 "ProphetFines$Foresight" prog_4_method_19_code lk_2 zNW) = true := by decide +kernel
set_option maxRecDepth 20000 in
theorem zk_28_0 : zt_28_0.all (zok 28 "ProphetFines$Foresight" prog_4_method_20_code lk_2 zNW) = true := by decide +kernel
set_option maxRecDepth 20000 in
theorem zk_29_0 : zt_29_0.all (zok 29 "ProphetFines$Foresight" prog_4_method_21_code lk_2 zNW) = true := by decide +kernel
set_option maxRecDepth 20000 in
theorem zk_30_0 : zt_30_0.all (zok 30 "ProphetFines$Ledger" prog_5_method_1_code lk_3 zNW) = true := by decide +kernel
set_option maxRecDepth 20000 in
theorem zk_31_0 : zt_31_0.all (zok 31 "ProphetFines$Ledger" prog_5_method_2_code lk_3 zNW) = true := by decide +kernel
set_option maxRecDepth 20000 in
theorem zk_31_1 : zt_31_1.all (zok 31 "ProphetFines$Ledger" prog_5_method_2_code lk_3 zNW) = true := by decide +kernel
set_option maxRecDepth 20000 in
theorem zk_32_0 : zt_32_0.all (zok 32 "ProphetFines$Ledger" prog_5_method_3_code lk_3 zNW) = true := by decide +kernel
set_option maxRecDepth 20000 in
theorem zk_33_0 : zt_33_0.all (zok 33 "ProphetFines$Ledger" prog_5_method_4_code lk_3 zNW) = true := by decide +kernel
set_option maxRecDepth 20000 in
theorem zk_34_0 : zt_34_0.all (zok 34 "ProphetFines$Ledger" prog_5_method_5_code lk_3 zNW) = true := by decide +kernel
set_option maxRecDepth 20000 in
theorem zk_35_0 : zt_35_0.all (zok 35 "ProphetFines$Ledger" prog_5_method_6_code lk_3 zNW) = true := by decide +kernel
set_option maxRecDepth 20000 in
theorem zk_36_0 : zt_36_0.all (zok 36 "ProphetFines$Ledger" prog_5_method_7_code lk_3 zNW) = true := by decide +kernel
set_option maxRecDepth 20000 in
theorem zk_37_0 : zt_37_0.all (zok 37 "ProphetFines$Republic" prog_6_method_1_code lk_4 zNW) = true := by decide +kernel
set_option maxRecDepth 20000 in
theorem zk_38_0 : zt_38_0.all (zok 38 "ProphetFines$Republic" prog_6_method_2_code lk_4 zNW) = true := by decide +kernel
set_option maxRecDepth 20000 in
theorem zk_38_1 : zt_38_1.all (zok 38 "ProphetFines$Republic" prog_6_method_2_code lk_4 zNW) = true := by decide +kernel
set_option maxRecDepth 20000 in
theorem zk_39_0 : zt_39_0.all (zok 39 "ProphetFines$Republic" prog_6_method_3_code lk_4 zNW) = true := by decide +kernel
set_option maxRecDepth 20000 in
theorem zk_40_0 : zt_40_0.all (zok 40 "ProphetFines$Republic" prog_6_method_4_code lk_4 zNW) = true := by decide +kernel
set_option maxRecDepth 20000 in
theorem zk_41_0 : zt_41_0.all (zok 41 "ProphetFines$Republic" prog_6_method_5_code lk_4 zNW) = true := by decide +kernel
set_option maxRecDepth 20000 in
theorem zk_42_0 : zt_42_0.all (zok 42 "ProphetFines$Republic" prog_6_method_6_code lk_4 zNW) = true := by decide +kernel
set_option maxRecDepth 20000 in
theorem zk_43_0 : zt_43_0.all (zok 43 "ProphetFines$Republic" prog_6_method_7_code lk_4 zNW) = true := by decide +kernel
set_option maxRecDepth 20000 in
theorem zk_44_0 : zt_44_0.all (zok 44 "ProphetFines$Republic" prog_6_method_8_code lk_4 zNW) = true := by decide +kernel
set_option maxRecDepth 20000 in
theorem zk_45_0 : zt_45_0.all (zok 45 "ProphetFines$Republic" prog_6_method_9_code lk_4 zNW) = true := by decide +kernel
set_option maxRecDepth 20000 in
theorem zk_46_0 : zt_46_0.all (zok 46 "ProphetFines$Republic" prog_6_method_10_code lk_4 zNW) = true := by decide +kernel
set_option maxRecDepth 20000 in
theorem zk_47_0 : zt_47_0.all (zok 47 "ProphetFines$Republic" prog_6_method_11_code lk_4 zNW) = true := by decide +kernel
set_option maxRecDepth 20000 in
theorem zk_48_0 : zt_48_0.all (zok 48 "ProphetFines$Republic" prog_6_method_12_code lk_4 zNW) = true := by decide +kernel
set_option maxRecDepth 20000 in
theorem zk_49_0 : zt_49_0.all (zok 49 "ProphetFines$Republic" prog_6_method_13_code lk_4 zNW) = true := by decide +kernel
set_option maxRecDepth 20000 in
theorem zk_50_0 : zt_50_0.all (zok 50 "ProphetFines$Republic" prog_6_method_14_code lk_4 zNW) = true := by decide +kernel
set_option maxRecDepth 20000 in
theorem zk_51_0 : zt_51_0.all (zok 51 "ProphetFines$Republic" prog_6_method_15_code lk_4 zNW) = true := by decide +kernel
set_option maxRecDepth 20000 in
theorem zk_52_0 : zt_52_0.all (zok 52 "ProphetFines$Republic" prog_6_method_16_code lk_4 zNW) = true := by decide +kernel
set_option maxRecDepth 20000 in
theorem zk_53_0 : zt_53_0.all (zok 53 "ProphetFines$Republic" prog_6_method_17_code lk_4 zNW) = true := by decide +kernel
set_option maxRecDepth 20000 in
theorem zk_54_0 : zt_54_0.all (zok 54 "ProphetFines$Republic" prog_6_method_18_code lk_4 zNW) = true := by decide +kernel
set_option maxRecDepth 20000 in
theorem zk_55_0 : zt_55_0.all (zok 55 "ProphetFines$Republic" prog_6_method_19_code lk_4 zNW) = true := by decide +kernel
set_option maxRecDepth 20000 in
theorem zk_56_0 : zt_56_0.all (zok 56 "ProphetFines$Republic" prog_6_method_20_code lk_4 zNW) = true := by decide +kernel
set_option maxRecDepth 20000 in
theorem zk_57_0 : zt_57_0.all (zok 57 "ProphetFines$Republic" prog_6_method_21_code lk_4 zNW) = true := by decide +kernel
set_option maxRecDepth 20000 in
theorem zk_57_1 : zt_57_1.all (zok 57 "ProphetFines$Republic" prog_6_method_21_code lk_4 zNW) = true := by decide +kernel
set_option maxRecDepth 20000 in
theorem zk_58_0 : zt_58_0.all (zok 58 "ProphetFines$Republic" prog_6_method_22_code lk_4 zNW) = true := by decide +kernel
set_option maxRecDepth 20000 in
theorem zk_59_0 : zt_59_0.all (zok 59 "ProphetFines$Republic" prog_6_method_23_code lk_4 zNW) = true := by decide +kernel
set_option maxRecDepth 20000 in
theorem zk_60_0 : zt_60_0.all (zok 60 "ProphetFines$Republic" prog_6_method_24_code lk_4 zNW) = true := by decide +kernel
set_option maxRecDepth 20000 in
theorem zk_61_0 : zt_61_0.all (zok 61 "ProphetFines$Republic" prog_6_method_25_code lk_4 zNW) = true := by decide +kernel
set_option maxRecDepth 20000 in
theorem zk_62_0 : zt_62_0.all (zok 62 "ProphetFines$Republic" prog_6_method_26_code lk_4 zNW) = true := by decide +kernel
set_option maxRecDepth 20000 in
theorem zk_63_0 : zt_63_0.all (zok 63 "ProphetFines$Rows" prog_7_method_1_code lk_5 zNW) = true := by decide +kernel
set_option maxRecDepth 20000 in
theorem zk_64_0 : zt_64_0.all (zok 64 "ProphetFines$Rows" prog_7_method_2_code lk_5 zNW) = true := by decide +kernel
set_option maxRecDepth 20000 in
theorem zk_65_0 : zt_65_0.all (zok 65 "ProphetFines$Rows" prog_7_method_3_code lk_5 zNW) = true := by decide +kernel
set_option maxRecDepth 20000 in
theorem zk_66_0 : zt_66_0.all (zok 66 "ProphetFines$Rows" prog_7_method_4_code lk_5 zNW) = true := by decide +kernel
set_option maxRecDepth 20000 in
theorem zk_67_0 : zt_67_0.all (zok 67 "ProphetFines$Rows" prog_7_method_5_code lk_5 zNW) = true := by decide +kernel
set_option maxRecDepth 20000 in
theorem zk_68_0 : zt_68_0.all (zok 68 "ProphetFines$Rows" prog_7_method_6_code lk_5 zNW) = true := by decide +kernel
set_option maxRecDepth 20000 in
theorem zk_69_0 : zt_69_0.all (zok 69 "ProphetFines$Rows" prog_7_method_7_code lk_5 zNW) = true := by decide +kernel
set_option maxRecDepth 20000 in
theorem zk_70_0 : zt_70_0.all (zok 70 "ProphetFines$Rows" prog_7_method_8_code lk_5 zNW) = true := by decide +kernel
set_option maxRecDepth 20000 in
theorem zk_71_0 : zt_71_0.all (zok 71 "ProphetFines$Rows" prog_7_method_9_code lk_5 zNW) = true := by decide +kernel
set_option maxRecDepth 20000 in
theorem zk_72_0 : zt_72_0.all (zok 72 "ProphetFines$Rows" prog_7_method_10_code lk_5 zNW) = true := by decide +kernel
set_option maxRecDepth 20000 in
theorem zk_73_0 : zt_73_0.all (zok 73 "ProphetFines$Tape" prog_8_method_1_code lk_6 zNW) = true := by decide +kernel
set_option maxRecDepth 20000 in
theorem zk_74_0 : zt_74_0.all (zok 74 "ProphetFines$Tape" prog_8_method_2_code lk_6 zNW) = true := by decide +kernel
set_option maxRecDepth 20000 in
theorem zk_75_0 : zt_75_0.all (zok 75 "ProphetFines$Tape" prog_8_method_3_code lk_6 zNW) = true := by decide +kernel
set_option maxRecDepth 20000 in
theorem zk_76_0 : zt_76_0.all (zok 76 "ProphetFines$Tape" prog_8_method_4_code lk_6 zNW) = true := by decide +kernel
set_option maxRecDepth 20000 in
theorem zk_77_0 : zt_77_0.all (zok 77 "ProphetFines$Tape" prog_8_method_5_code lk_6 zNW) = true := by decide +kernel
set_option maxRecDepth 20000 in
theorem zk_78_0 : zt_78_0.all (zok 78 "ProphetFines$Tape" prog_8_method_6_code lk_6 zNW) = true := by decide +kernel
set_option maxRecDepth 20000 in
theorem zk_78_1 : zt_78_1.all (zok 78 "ProphetFines$Tape" prog_8_method_6_code lk_6 zNW) = true := by decide +kernel
set_option maxRecDepth 20000 in
theorem zk_79_0 : zt_79_0.all (zok 79 "ProphetFines$Tape" prog_8_method_7_code lk_6 zNW) = true := by decide +kernel
set_option maxRecDepth 20000 in
theorem zk_80_0 : zt_80_0.all (zok 80 "ProphetFines$Tape" prog_8_method_8_code lk_6 zNW) = true := by decide +kernel
set_option maxRecDepth 20000 in
theorem zk_81_0 : zt_81_0.all (zok 81 "ProphetFines$Tape" prog_8_method_9_code lk_6 zNW) = true := by decide +kernel
set_option maxRecDepth 20000 in
theorem zk_82_0 : zt_82_0.all (zok 82 "ProphetFines$Tape" prog_8_method_10_code lk_6 zNW) = true := by decide +kernel
set_option maxRecDepth 20000 in
theorem zk_82_1 : zt_82_1.all (zok 82 "ProphetFines$Tape" prog_8_method_10_code lk_6 zNW) = true := by decide +kernel
set_option maxRecDepth 20000 in
theorem zk_83_0 : zt_83_0.all (zok 83 "ProphetFines$Tape" prog_8_method_11_code lk_6 zNW) = true := by decide +kernel
set_option maxRecDepth 20000 in
theorem zk_84_0 : zt_84_0.all (zok 84 "ProphetFines$Tape" prog_8_method_12_code lk_6 zNW) = true := by decide +kernel
set_option maxRecDepth 20000 in
theorem zk_85_0 : zt_85_0.all (zok 85 "ProphetFines" prog_1_method_1_code lk_7 zNW) = true := by decide +kernel
set_option maxRecDepth 20000 in
theorem zk_85_1 : zt_85_1.all (zok 85 "ProphetFines" prog_1_method_1_code lk_7 zNW) = true := by decide +kernel
set_option maxRecDepth 20000 in
theorem zk_86_0 : zt_86_0.all (zok 86 "ProphetFines" prog_1_method_2_code lk_7 zNW) = true := by decide +kernel
set_option maxRecDepth 20000 in
theorem zk_87_0 : zt_87_0.all (zok 87 "ProphetFines" prog_1_method_3_code lk_7 zNW) = true := by decide +kernel
set_option maxRecDepth 20000 in
theorem zk_88_0 : zt_88_0.all (zok 88 "ProphetFines" prog_1_method_4_code lk_7 zNW) = true := by decide +kernel
set_option maxRecDepth 20000 in
theorem zk_88_1 : zt_88_1.all (zok 88 "ProphetFines" prog_1_method_4_code lk_7 zNW) = true := by decide +kernel
set_option maxRecDepth 20000 in
theorem zk_89_0 : zt_89_0.all (zok 89 "ProphetFines" prog_1_method_5_code lk_7 zNW) = true := by decide +kernel
set_option maxRecDepth 20000 in
theorem zk_90_0 : zt_90_0.all (zok 90 "ProphetFines" prog_1_method_6_code lk_7 zNW) = true := by decide +kernel
set_option maxRecDepth 20000 in
theorem zk_91_0 : zt_91_0.all (zok 91 "ProphetFines" prog_1_method_7_code lk_7 zNW) = true := by decide +kernel
set_option maxRecDepth 20000 in
theorem zk_92_0 : zt_92_0.all (zok 92 "ProphetFines" prog_1_method_8_code lk_7 zNW) = true := by decide +kernel
set_option maxRecDepth 20000 in
theorem zk_93_0 : zt_93_0.all (zok 93 "ProphetFines" prog_1_method_9_code lk_7 zNW) = true := by decide +kernel
set_option maxRecDepth 20000 in
theorem zk_94_0 : zt_94_0.all (zok 94 "ProphetFines" prog_1_method_10_code lk_7 zNW) = true := by decide +kernel
set_option maxRecDepth 20000 in
theorem zk_95_0 : zt_95_0.all (zok 95 "ProphetFines" prog_1_method_11_code lk_7 zNW) = true := by decide +kernel
set_option maxRecDepth 20000 in
theorem zk_96_0 : zt_96_0.all (zok 96 "ProphetFines" prog_1_method_12_code lk_7 zNW) = true := by decide +kernel
set_option maxRecDepth 20000 in
theorem zk_97_0 : zt_97_0.all (zok 97 "ProphetFines" prog_1_method_13_code lk_7 zNW) = true := by decide +kernel
set_option maxRecDepth 20000 in
theorem zk_98_0 : zt_98_0.all (zok 98 "ProphetFines" prog_1_method_14_code lk_7 zNW) = true := by decide +kernel
set_option maxRecDepth 20000 in
theorem zk_99_0 : zt_99_0.all (zok 99 "ProphetFines" prog_1_method_15_code lk_7 zNW) = true := by decide +kernel
set_option maxRecDepth 20000 in
theorem zk_100_0 : zt_100_0.all (zok 100 "ProphetFines" prog_1_method_16_code lk_7 zNW) = true := by decide +kernel
set_option maxRecDepth 20000 in
theorem zk_101_0 : zt_101_0.all (zok 101 "ProphetFines" prog_1_method_17_code lk_7 zNW) = true := by decide +kernel
set_option maxRecDepth 20000 in
theorem zk_102_0 : zt_102_0.all (zok 102 "ProphetFines" prog_1_method_18_code lk_7 zNW) = true := by decide +kernel
set_option maxRecDepth 20000 in
theorem zk_103_0 : zt_103_0.all (zok 103 "ProphetFines" prog_1_method_19_code lk_7 zNW) = true := by decide +kernel
set_option maxRecDepth 20000 in
theorem zk_104_0 : zt_104_0.all (zok 104 "ProphetFines" prog_1_method_20_code lk_7 zNW) = true := by decide +kernel
set_option maxRecDepth 20000 in
theorem zk_105_0 : zt_105_0.all (zok 105 "ProphetFines" prog_1_method_21_code lk_7 zNW) = true := by decide +kernel
set_option maxRecDepth 20000 in
theorem zk_106_0 : zt_106_0.all (zok 106 "ProphetFines" prog_1_method_22_code lk_7 zNW) = true := by decide +kernel
set_option maxRecDepth 20000 in
theorem zk_107_0 : zt_107_0.all (zok 107 "ProphetFines" prog_1_method_23_code lk_7 zNW) = true := by decide +kernel
set_option maxRecDepth 20000 in
theorem zk_108_0 : zt_108_0.all (zok 108 "ProphetFines" prog_1_method_24_code lk_7 zNW) = true := by decide +kernel
set_option maxRecDepth 20000 in
theorem zk_109_0 : zt_109_0.all (zok 109 "ProphetFines" prog_1_method_25_code lk_7 zNW) = true := by decide +kernel
set_option maxRecDepth 20000 in
theorem zk_110_0 : zt_110_0.all (zok 110 "ProphetFines" prog_1_method_26_code lk_7 zNW) = true := by decide +kernel
set_option maxRecDepth 20000 in
theorem zk_110_1 : zt_110_1.all (zok 110 "ProphetFines" prog_1_method_26_code lk_7 zNW) = true := by decide +kernel
set_option maxRecDepth 20000 in
theorem zk_111_0 : zt_111_0.all (zok 111 "ProphetFines" prog_1_method_27_code lk_7 zNW) = true := by decide +kernel
set_option maxRecDepth 20000 in
theorem zk_112_0 : zt_112_0.all (zok 112 "ProphetFines" prog_1_method_28_code lk_7 zNW) = true := by decide +kernel
set_option maxRecDepth 20000 in
theorem zk_113_0 : zt_113_0.all (zok 113 "ProphetFines" prog_1_method_29_code lk_7 zNW) = true := by decide +kernel
set_option maxRecDepth 20000 in
theorem zk_114_0 : zt_114_0.all (zok 114 "ProphetFines" prog_1_method_30_code lk_7 zNW) = true := by decide +kernel
set_option maxRecDepth 20000 in
theorem zk_115_0 : zt_115_0.all (zok 115 "ProphetFines" prog_1_method_31_code lk_7 zNW) = true := by decide +kernel
set_option maxRecDepth 20000 in
theorem zk_116_0 : zt_116_0.all (zok 116 "ProphetFines" prog_1_method_32_code lk_7 zNW) = true := by decide +kernel
set_option maxRecDepth 20000 in
theorem zk_117_0 : zt_117_0.all (zok 117 "ProphetFines" prog_1_method_33_code lk_7 zNW) = true := by decide +kernel
set_option maxRecDepth 20000 in
theorem zk_118_0 : zt_118_0.all (zok 118 "ProphetFines" prog_1_method_34_code lk_7 zNW) = true := by decide +kernel
set_option maxRecDepth 20000 in
theorem zk_119_0 : zt_119_0.all (zok 119 "ProphetFines" prog_1_method_35_code lk_7 zNW) = true := by decide +kernel
set_option maxRecDepth 20000 in
theorem zk_120_0 : zt_120_0.all (zok 120 "ProphetFines" prog_1_method_36_code lk_7 zNW) = true := by decide +kernel
set_option maxRecDepth 20000 in
theorem zk_121_0 : zt_121_0.all (zok 121 "ProphetFines" prog_1_method_37_code lk_7 zNW) = true := by decide +kernel
set_option maxRecDepth 20000 in
theorem zk_122_0 : zt_122_0.all (zok 122 "ProphetFines" prog_1_method_38_code lk_7 zNW) = true := by decide +kernel
set_option maxRecDepth 20000 in
theorem zk_123_0 : zt_123_0.all (zok 123 "ProphetFines" prog_1_method_39_code lk_7 zNW) = true := by decide +kernel
set_option maxRecDepth 20000 in
theorem zk_124_0 : zt_124_0.all (zok 124 "ProphetFines" prog_1_method_40_code lk_7 zNW) = true := by decide +kernel
set_option maxRecDepth 20000 in
theorem zk_125_0 : zt_125_0.all (zok 125 "ProphetFines" prog_1_method_41_code lk_7 zNW) = true := by decide +kernel
set_option maxRecDepth 20000 in
theorem zk_126_0 : zt_126_0.all (zok 126 "ProphetFines" prog_1_method_42_code lk_7 zNW) = true := by decide +kernel
set_option maxRecDepth 20000 in
theorem zk_127_0 : zt_127_0.all (zok 127 "ProphetFines" prog_1_method_43_code lk_7 zNW) = true := by decide +kernel
set_option maxRecDepth 20000 in
theorem zk_128_0 : zt_128_0.all (zok 128 "ProphetFines" prog_1_method_44_code lk_7 zNW) = true := by decide +kernel
set_option maxRecDepth 20000 in
theorem zk_129_0 : zt_129_0.all (zok 129 "ProphetFines" prog_1_method_45_code lk_7 zNW) = true := by decide +kernel
set_option maxRecDepth 20000 in
theorem zk_130_0 : zt_130_0.all (zok 130 "ProphetFines" prog_1_method_46_code lk_7 zNW) = true := by decide +kernel
set_option maxRecDepth 20000 in
theorem zk_131_0 : zt_131_0.all (zok 131 "ProphetFines" prog_1_method_47_code lk_7 zNW) = true := by decide +kernel
set_option maxRecDepth 20000 in
theorem zk_132_0 : zt_132_0.all (zok 132 "ProphetFinesModel" prog_10_method_1_code lk_8 zNW) = true := by decide +kernel
set_option maxRecDepth 20000 in
theorem zk_132_1 : zt_132_1.all (zok 132 "ProphetFinesModel" prog_10_method_1_code lk_8 zNW) = true := by decide +kernel
set_option maxRecDepth 20000 in
theorem zk_133_0 : zt_133_0.all (zok 133 "ProphetFinesModel" prog_10_method_2_code lk_8 zNW) = true := by decide +kernel
set_option maxRecDepth 20000 in
theorem zk_134_0 : zt_134_0.all (zok 134 "ProphetFinesModel" prog_10_method_3_code lk_8 zNW) = true := by decide +kernel
set_option maxRecDepth 20000 in
theorem zk_135_0 : zt_135_0.all (zok 135 "ProphetFinesModel" prog_10_method_4_code lk_8 zNW) = true := by decide +kernel
set_option maxRecDepth 20000 in
theorem zk_136_0 : zt_136_0.all (zok 136 "ProphetFinesModel" prog_10_method_5_code lk_8 zNW) = true := by decide +kernel
set_option maxRecDepth 20000 in
theorem zk_137_0 : zt_137_0.all (zok 137 "ProphetFinesModel" prog_10_method_6_code lk_8 zNW) = true := by decide +kernel
set_option maxRecDepth 20000 in
theorem zk_138_0 : zt_138_0.all (zok 138 "ProphetFinesModel" prog_10_method_7_code lk_8 zNW) = true := by decide +kernel
set_option maxRecDepth 20000 in
theorem zk_139_0 : zt_139_0.all (zok 139 "ProphetFinesModel" prog_10_method_8_code lk_8 zNW) = true := by decide +kernel
set_option maxRecDepth 20000 in
theorem zk_140_0 : zt_140_0.all (zok 140 "ProphetFinesModel" prog_10_method_9_code lk_8 zNW) = true := by decide +kernel
set_option maxRecDepth 20000 in
theorem zk_140_1 : zt_140_1.all (zok 140 "ProphetFinesModel" prog_10_method_9_code lk_8 zNW) = true := by decide +kernel
set_option maxRecDepth 20000 in
theorem zk_141_0 : zt_141_0.all (zok 141 "ProphetFinesModel" prog_10_method_10_code lk_8 zNW) = true := by decide +kernel
set_option maxRecDepth 20000 in
theorem zk_141_1 : zt_141_1.all (zok 141 "ProphetFinesModel" prog_10_method_10_code lk_8 zNW) = true := by decide +kernel
set_option maxRecDepth 20000 in
theorem zk_142_0 : zt_142_0.all (zok 142 "ProphetFinesModel" prog_10_method_11_code lk_8 zNW) = true := by decide +kernel
set_option maxRecDepth 20000 in
theorem zk_143_0 : zt_143_0.all (zok 143 "ProphetFinesModel" prog_10_method_12_code lk_8 zNW) = true := by decide +kernel
set_option maxRecDepth 20000 in
theorem zk_144_0 : zt_144_0.all (zok 144 "ProphetFinesModel" prog_10_method_13_code lk_8 zNW) = true := by decide +kernel
set_option maxRecDepth 20000 in
theorem zk_144_1 : zt_144_1.all (zok 144 "ProphetFinesModel" prog_10_method_13_code lk_8 zNW) = true := by decide +kernel
set_option maxRecDepth 20000 in
theorem zk_145_0 : zt_145_0.all (zok 145 "ProphetFinesModel" prog_10_method_14_code lk_8 zNW) = true := by decide +kernel
set_option maxRecDepth 20000 in
theorem zk_146_0 : zt_146_0.all (zok 146 "ProphetFinesModel" prog_10_method_15_code lk_8 zNW) = true := by decide +kernel
set_option maxRecDepth 20000 in
theorem zk_147_0 : zt_147_0.all (zok 147 "ProphetFinesModel" prog_10_method_16_code lk_8 zNW) = true := by decide +kernel
set_option maxRecDepth 20000 in
theorem zk_148_0 : zt_148_0.all (zok 148 "ProphetFinesModel" prog_10_method_17_code lk_8 zNW) = true := by decide +kernel
set_option maxRecDepth 20000 in
theorem zk_149_0 : zt_149_0.all (zok 149 "ProphetFinesModel" prog_10_method_18_code lk_8 zNW) = true := by decide +kernel
set_option maxRecDepth 20000 in
theorem zk_149_1 : zt_149_1.all (zok 149 "ProphetFinesModel" prog_10_method_18_code lk_8 zNW) = true := by decide +kernel
set_option maxRecDepth 20000 in
theorem zk_150_0 : zt_150_0.all (zok 150 "ProphetFinesModel" prog_10_method_19_code lk_8 zNW) = true := by decide +kernel
set_option maxRecDepth 20000 in
theorem zk_150_1 : zt_150_1.all (zok 150 "ProphetFinesModel" prog_10_method_19_code lk_8 zNW) = true := by decide +kernel
set_option maxRecDepth 20000 in
theorem zk_151_0 : zt_151_0.all (zok 151 "ProphetFinesModel" prog_10_method_20_code lk_8 zNW) = true := by decide +kernel
set_option maxRecDepth 20000 in
theorem zk_152_0 : zt_152_0.all (zok 152 "ProphetFinesModel" prog_10_method_21_code lk_8 zNW) = true := by decide +kernel
set_option maxRecDepth 20000 in
theorem zk_153_0 : zt_153_0.all (zok 153 "ProphetFinesModel" prog_10_method_22_code lk_8 zNW) = true := by decide +kernel
set_option maxRecDepth 20000 in
theorem zk_154_0 : zt_154_0.all (zok 154 "ProphetFinesModel" prog_10_method_23_code lk_8 zNW) = true := by decide +kernel
set_option maxRecDepth 20000 in
theorem zk_155_0 : zt_155_0.all (zok 155 "ProphetFinesModel" prog_10_method_24_code lk_8 zNW) = true := by decide +kernel
set_option maxRecDepth 20000 in
theorem zk_156_0 : zt_156_0.all (zok 156 "ProphetFinesModel" prog_10_method_25_code lk_8 zNW) = true := by decide +kernel
set_option maxRecDepth 20000 in
theorem zk_157_0 : zt_157_0.all (zok 157 "ProphetFinesModel" prog_10_method_26_code lk_8 zNW) = true := by decide +kernel
set_option maxRecDepth 20000 in
theorem zk_158_0 : zt_158_0.all (zok 158 "ProphetFinesModel" prog_10_method_27_code lk_8 zNW) = true := by decide +kernel
set_option maxRecDepth 20000 in
theorem zk_159_0 : zt_159_0.all (zok 159 "ProphetFinesModel" prog_10_method_28_code lk_8 zNW) = true := by decide +kernel
set_option maxRecDepth 20000 in
theorem zk_160_0 : zt_160_0.all (zok 160 "ProphetFinesModel" prog_10_method_29_code lk_8 zNW) = true := by decide +kernel
set_option maxRecDepth 20000 in
theorem zk_161_0 : zt_161_0.all (zok 161 "ProphetFinesModel" prog_10_method_30_code lk_8 zNW) = true := by decide +kernel
set_option maxRecDepth 20000 in
theorem zk_161_1 : zt_161_1.all (zok 161 "ProphetFinesModel" prog_10_method_30_code lk_8 zNW) = true := by decide +kernel
set_option maxRecDepth 20000 in
theorem zk_162_0 : zt_162_0.all (zok 162 "ProphetFinesModel" prog_10_method_31_code lk_8 zNW) = true := by decide +kernel
set_option maxRecDepth 20000 in
theorem zk_163_0 : zt_163_0.all (zok 163 "ProphetFinesModel" prog_10_method_32_code lk_8 zNW) = true := by decide +kernel
set_option maxRecDepth 20000 in
theorem zk_164_0 : zt_164_0.all (zok 164 "ProphetFinesModel" prog_10_method_33_code lk_8 zNW) = true := by decide +kernel
set_option maxRecDepth 20000 in
theorem zk_165_0 : zt_165_0.all (zok 165 "ProphetFinesModel" prog_10_method_34_code lk_8 zNW) = true := by decide +kernel
set_option maxRecDepth 20000 in
theorem zk_166_0 : zt_166_0.all (zok 166 "ProphetFinesModel" prog_10_method_35_code lk_8 zNW) = true := by decide +kernel
set_option maxRecDepth 20000 in
theorem zk_167_0 : zt_167_0.all (zok 167 "ProphetFinesModel" prog_10_method_36_code lk_8 zNW) = true := by decide +kernel
set_option maxRecDepth 20000 in
theorem zk_168_0 : zt_168_0.all (zok 168 "ProphetFinesModel" prog_10_method_37_code lk_8 zNW) = true := by decide +kernel
set_option maxRecDepth 20000 in
theorem zk_169_0 : zt_169_0.all (zok 169 "ProphetFinesModel" prog_10_method_38_code lk_8 zNW) = true := by decide +kernel
set_option maxRecDepth 20000 in
theorem zk_170_0 : zt_170_0.all (zok 170 "ProphetFinesModel" prog_10_method_39_code lk_8 zNW) = true := by decide +kernel
set_option maxRecDepth 20000 in
theorem zk_170_1 : zt_170_1.all (zok 170 "ProphetFinesModel" prog_10_method_39_code lk_8 zNW) = true := by decide +kernel
set_option maxRecDepth 20000 in
theorem zk_171_0 : zt_171_0.all (zok 171 "ProphetFinesModel" prog_10_method_40_code lk_8 zNW) = true := by decide +kernel
set_option maxRecDepth 20000 in
theorem zk_172_0 : zt_172_0.all (zok 172 "ProphetFinesModel" prog_10_method_41_code lk_8 zNW) = true := by decide +kernel
set_option maxRecDepth 20000 in
theorem zk_173_0 : zt_173_0.all (zok 173 "ProphetFinesModel" prog_10_method_42_code lk_8 zNW) = true := by decide +kernel
set_option maxRecDepth 20000 in
theorem zk_174_0 : zt_174_0.all (zok 174 "ProphetFinesModel" prog_10_method_43_code lk_8 zNW) = true := by decide +kernel
set_option maxRecDepth 20000 in
theorem zk_175_0 : zt_175_0.all (zok 175 "ProphetFinesModel" prog_10_method_44_code lk_8 zNW) = true := by decide +kernel
set_option maxRecDepth 20000 in
theorem zk_175_1 : zt_175_1.all (zok 175 "ProphetFinesModel" prog_10_method_44_code lk_8 zNW) = true := by decide +kernel
set_option maxRecDepth 20000 in
theorem zk_176_0 : zt_176_0.all (zok 176 "ProphetFinesModel" prog_10_method_45_code lk_8 zNW) = true := by decide +kernel
set_option maxRecDepth 20000 in
theorem zk_177_0 : zt_177_0.all (zok 177 "ProphetFinesModel" prog_10_method_46_code lk_8 zNW) = true := by decide +kernel
set_option maxRecDepth 20000 in
theorem zk_177_1 : zt_177_1.all (zok 177 "ProphetFinesModel" prog_10_method_46_code lk_8 zNW) = true := by decide +kernel
set_option maxRecDepth 20000 in
theorem zk_178_0 : zt_178_0.all (zok 178 "ProphetFinesModel" prog_10_method_47_code lk_8 zNW) = true := by decide +kernel
set_option maxRecDepth 20000 in
theorem zk_179_0 : zt_179_0.all (zok 179 "ProphetFinesModel" prog_10_method_48_code lk_8 zNW) = true := by decide +kernel
set_option maxRecDepth 20000 in
theorem zk_180_0 : zt_180_0.all (zok 180 "ProphetFinesModel" prog_10_method_49_code lk_8 zNW) = true := by decide +kernel
set_option maxRecDepth 20000 in
theorem zk_181_0 : zt_181_0.all (zok 181 "ProphetFinesModel" prog_10_method_50_code lk_8 zNW) = true := by decide +kernel
set_option maxRecDepth 20000 in
theorem zk_182_0 : zt_182_0.all (zok 182 "ProphetFinesModel" prog_10_method_51_code lk_8 zNW) = true := by decide +kernel
set_option maxRecDepth 20000 in
theorem zk_183_0 : zt_183_0.all (zok 183 "ProphetFinesModel" prog_10_method_52_code lk_8 zNW) = true := by decide +kernel
set_option maxRecDepth 20000 in
theorem zk_184_0 : zt_184_0.all (zok 184 "ProphetFinesModel" prog_10_method_53_code lk_8 zNW) = true := by decide +kernel
set_option maxRecDepth 20000 in
theorem zk_185_0 : zt_185_0.all (zok 185 "ProphetFinesModel" prog_10_method_54_code lk_8 zNW) = true := by decide +kernel
set_option maxRecDepth 20000 in
theorem zk_186_0 : zt_186_0.all (zok 186 "ProphetFinesModel" prog_10_method_55_code lk_8 zNW) = true := by decide +kernel
set_option maxRecDepth 20000 in
theorem zk_187_0 : zt_187_0.all (zok 187 "ProphetFinesModel" prog_10_method_56_code lk_8 zNW) = true := by decide +kernel
set_option maxRecDepth 20000 in
theorem zk_188_0 : zt_188_0.all (zok 188 "ProphetFinesModel" prog_10_method_57_code lk_8 zNW) = true := by decide +kernel
set_option maxRecDepth 20000 in
theorem zk_189_0 : zt_189_0.all (zok 189 "ProphetFinesModel" prog_10_method_58_code lk_8 zNW) = true := by decide +kernel
set_option maxRecDepth 20000 in
theorem zk_190_0 : zt_190_0.all (zok 190 "ProphetFinesModel" prog_10_method_59_code lk_8 zNW) = true := by decide +kernel
set_option maxRecDepth 20000 in
theorem zk_191_0 : zt_191_0.all (zok 191 "ProphetFinesModel" prog_10_method_60_code lk_8 zNW) = true := by decide +kernel
set_option maxRecDepth 20000 in
theorem zk_192_0 : zt_192_0.all (zok 192 "ProphetFinesModel" prog_10_method_61_code lk_8 zNW) = true := by decide +kernel
set_option maxRecDepth 20000 in
theorem zk_192_1 : zt_192_1.all (zok 192 "ProphetFinesModel" prog_10_method_61_code lk_8 zNW) = true := by decide +kernel
set_option maxRecDepth 20000 in
theorem zk_192_2 : zt_192_2.all (zok 192 "ProphetFinesModel" prog_10_method_61_code lk_8 zNW) = true := by decide +kernel
set_option maxRecDepth 20000 in
theorem zk_193_0 : zt_193_0.all (zok 193 "ProphetFinesModel" prog_10_method_62_code lk_8 zNW) = true := by decide +kernel
set_option maxRecDepth 20000 in
theorem zk_194_0 : zt_194_0.all (zok 194 "ProphetFinesModel" prog_10_method_63_code lk_8 zNW) = true := by decide +kernel
set_option maxRecDepth 20000 in
theorem zk_194_1 : zt_194_1.all (zok 194 "ProphetFinesModel" prog_10_method_63_code lk_8 zNW) = true := by decide +kernel
set_option maxRecDepth 20000 in
theorem zk_195_0 : zt_195_0.all (zok 195 "ProphetFinesModel" prog_10_method_64_code lk_8 zNW) = true := by decide +kernel
set_option maxRecDepth 20000 in
theorem zk_195_1 : zt_195_1.all (zok 195 "ProphetFinesModel" prog_10_method_64_code lk_8 zNW) = true := by decide +kernel
set_option maxRecDepth 20000 in
theorem zk_196_0 : zt_196_0.all (zok 196 "ProphetFinesModel" prog_10_method_65_code lk_8 zNW) = true := by decide +kernel
set_option maxRecDepth 20000 in
theorem zk_196_1 : zt_196_1.all (zok 196 "ProphetFinesModel" prog_10_method_65_code lk_8 zNW) = true := by decide +kernel
set_option maxRecDepth 20000 in
theorem zk_197_0 : zt_197_0.all (zok 197 "ProphetFinesModel" prog_10_method_66_code lk_8 zNW) = true := by decide +kernel
set_option maxRecDepth 20000 in
theorem zk_197_1 : zt_197_1.all (zok 197 "ProphetFinesModel" prog_10_method_66_code lk_8 zNW) = true := by decide +kernel
set_option maxRecDepth 20000 in
theorem zk_197_2 : zt_197_2.all (zok 197 "ProphetFinesModel" prog_10_method_66_code lk_8 zNW) = true := by decide +kernel
set_option maxRecDepth 20000 in
theorem zk_198_0 : zt_198_0.all (zok 198 "ProphetFinesModel" prog_10_method_67_code lk_8 zNW) = true := by decide +kernel
set_option maxRecDepth 20000 in
theorem zk_199_0 : zt_199_0.all (zok 199 "ProphetFinesModel" prog_10_method_68_code lk_8 zNW) = true := by decide +kernel
set_option maxRecDepth 20000 in
theorem zk_200_0 : zt_200_0.all (zok 200 "ProphetFinesModel" prog_10_method_69_code lk_8 zNW) = true := by decide +kernel
set_option maxRecDepth 20000 in
theorem zk_200_1 : zt_200_1.all (zok 200 "ProphetFinesModel" prog_10_method_69_code lk_8 zNW) = true := by decide +kernel
set_option maxRecDepth 20000 in
theorem zk_200_2 : zt_200_2.all (zok 200 "ProphetFinesModel" prog_10_method_69_code lk_8 zNW) = true := by decide +kernel
set_option maxRecDepth 20000 in
theorem zk_201_0 : zt_201_0.all (zok 201 "ProphetFinesModel" prog_10_method_70_code lk_8 zNW) = true := by decide +kernel
set_option maxRecDepth 20000 in
theorem zk_202_0 : zt_202_0.all (zok 202 "ProphetFinesModel" prog_10_method_71_code lk_8 zNW) = true := by decide +kernel
set_option maxRecDepth 20000 in
theorem zk_202_1 : zt_202_1.all (zok 202 "ProphetFinesModel" prog_10_method_71_code lk_8 zNW) = true := by decide +kernel
set_option maxRecDepth 20000 in
theorem zk_203_0 : zt_203_0.all (zok 203 "ProphetFinesModel" prog_10_method_72_code lk_8 zNW) = true := by decide +kernel
set_option maxRecDepth 20000 in
theorem zk_204_0 : zt_204_0.all (zok 204 "ProphetFinesModel" prog_10_method_73_code lk_8 zNW) = true := by decide +kernel
set_option maxRecDepth 20000 in
theorem zk_205_0 : zt_205_0.all (zok 205 "ProphetFinesModel" prog_10_method_74_code lk_8 zNW) = true := by decide +kernel
set_option maxRecDepth 20000 in
theorem zk_206_0 : zt_206_0.all (zok 206 "ProphetFinesModel" prog_10_method_75_code lk_8 zNW) = true := by decide +kernel
set_option maxRecDepth 20000 in
theorem zk_207_0 : zt_207_0.all (zok 207 "ProphetFinesModel" prog_10_method_76_code lk_8 zNW) = true := by decide +kernel
set_option maxRecDepth 20000 in
theorem zk_208_0 : zt_208_0.all (zok 208 "ProphetFinesModel" prog_10_method_77_code lk_8 zNW) = true := by decide +kernel
set_option maxRecDepth 20000 in
theorem zk_209_0 : zt_209_0.all (zok 209 "ProphetFinesModel" prog_10_method_78_code lk_8 zNW) = true := by decide +kernel
set_option maxRecDepth 20000 in
theorem zk_210_0 : zt_210_0.all (zok 210 "ProphetFinesModel" prog_10_method_79_code lk_8 zNW) = true := by decide +kernel
set_option maxRecDepth 20000 in
theorem zk_210_1 : zt_210_1.all (zok 210 "ProphetFinesModel" prog_10_method_79_code lk_8 zNW) = true := by decide +kernel
set_option maxRecDepth 20000 in
theorem zk_211_0 : zt_211_0.all (zok 211 "ProphetFinesModel" prog_10_method_80_code lk_8 zNW) = true := by decide +kernel
set_option maxRecDepth 20000 in
theorem zk_212_0 : zt_212_0.all (zok 212 "ProphetFinesModel" prog_10_method_81_code lk_8 zNW) = true := by decide +kernel
set_option maxRecDepth 20000 in
theorem zk_213_0 : zt_213_0.all (zok 213 "ProphetFinesModel" prog_10_method_82_code lk_8 zNW) = true := by decide +kernel
set_option maxRecDepth 20000 in
theorem zk_214_0 : zt_214_0.all (zok 214 "ProphetFinesModel" prog_10_method_83_code lk_8 zNW) = true := by decide +kernel
set_option maxRecDepth 20000 in
theorem zk_215_0 : zt_215_0.all (zok 215 "ProphetFinesModel" prog_10_method_84_code lk_8 zNW) = true := by decide +kernel
set_option maxRecDepth 20000 in
theorem zk_216_0 : zt_216_0.all (zok 216 "java/lang/Integer" prog_11_method_49_code lk_9 zNW) = true := by decide +kernel
set_option maxRecDepth 20000 in
theorem zk_217_0 : zt_217_0.all (zok 217 "java/lang/Long" prog_12_method_50_code lk_10 zNW) = true := by decide +kernel
set_option maxRecDepth 20000 in
theorem zk_218_0 : zt_218_0.all (zok 218 "java/lang/Math" prog_13_method_61_code lk_11 zNW) = true := by decide +kernel
set_option maxRecDepth 20000 in
theorem zk_219_0 : zt_219_0.all (zok 219 "java/lang/Math" prog_13_method_66_code lk_11 zNW) = true := by decide +kernel
set_option maxRecDepth 20000 in
theorem zk_220_0 : zt_220_0.all (zok 220 "java/lang/String" prog_14_method_56_code lk_12 zNW) = true := by decide +kernel
set_option maxRecDepth 20000 in
theorem zk_221_0 : zt_221_0.all (zok 221 "java/lang/String" prog_14_method_154_code lk_12 zNW) = true := by decide +kernel
set_option maxRecDepth 20000 in
theorem zk_222_0 : zt_222_0.all (zok 222 "java/lang/String" prog_14_method_155_code lk_12 zNW) = true := by decide +kernel
set_option maxRecDepth 20000 in
theorem zk_223_0 : zt_223_0.all (zok 223 "java/lang/StringLatin1" prog_15_method_2_code lk_13 zNW) = true := by decide +kernel
set_option maxRecDepth 20000 in
theorem zk_224_0 : zt_224_0.all (zok 224 "java/util/Arrays" prog_18_method_103_code lk_14 zNW) = true := by decide +kernel
set_option maxRecDepth 20000 in
theorem zk_225_0 : zt_225_0.all (zok 225 "jdk/internal/util/Preconditions" prog_19_method_11_code lk_15 zNW) = true := by decide +kernel
set_option maxRecDepth 20000 in
theorem zk_226_0 : zt_226_0.all (zok 226 "ProphetFinesLaw" code lk_16 zNW) = true := by decide +kernel
set_option maxRecDepth 20000 in
theorem zk_226_1 : zt_226_1.all (zok 226 "ProphetFinesLaw" code lk_16 zNW) = true := by decide +kernel
set_option maxRecDepth 20000 in
theorem zk_226_2 : zt_226_2.all (zok 226 "ProphetFinesLaw" code lk_16 zNW) = true := by decide +kernel
set_option maxRecDepth 20000 in
theorem zk_226_3 : zt_226_3.all (zok 226 "ProphetFinesLaw" code lk_16 zNW) = true := by decide +kernel
set_option maxRecDepth 20000 in
theorem zk_226_4 : zt_226_4.all (zok 226 "ProphetFinesLaw" code lk_16 zNW) = true := by decide +kernel
set_option maxRecDepth 20000 in
theorem zk_226_5 : zt_226_5.all (zok 226 "ProphetFinesLaw" code lk_16 zNW) = true := by decide +kernel
set_option maxRecDepth 20000 in
theorem zk_226_6 : zt_226_6.all (zok 226 "ProphetFinesLaw" code lk_16 zNW) = true := by decide +kernel
set_option maxRecDepth 20000 in
theorem zk_226_7 : zt_226_7.all (zok 226 "ProphetFinesLaw" code lk_16 zNW) = true := by decide +kernel
set_option maxRecDepth 20000 in
theorem zk_226_8 : zt_226_8.all (zok 226 "ProphetFinesLaw" code lk_16 zNW) = true := by decide +kernel
set_option maxRecDepth 20000 in
theorem zk_226_9 : zt_226_9.all (zok 226 "ProphetFinesLaw" code lk_16 zNW) = true := by decide +kernel
set_option maxRecDepth 20000 in
theorem zk_226_10 : zt_226_10.all (zok 226 "ProphetFinesLaw" code lk_16 zNW) = true := by decide +kernel
set_option maxRecDepth 20000 in
theorem zk_226_11 : zt_226_11.all (zok 226 "ProphetFinesLaw" code lk_16 zNW) = true := by decide +kernel
set_option maxRecDepth 20000 in
theorem zk_226_12 : zt_226_12.all (zok 226 "ProphetFinesLaw" code lk_16 zNW) = true := by decide +kernel
set_option maxRecDepth 20000 in
theorem zk_226_13 : zt_226_13.all (zok 226 "ProphetFinesLaw" code lk_16 zNW) = true := by decide +kernel
set_option maxRecDepth 20000 in
theorem zk_226_14 : zt_226_14.all (zok 226 "ProphetFinesLaw" code lk_16 zNW) = true := by decide +kernel
