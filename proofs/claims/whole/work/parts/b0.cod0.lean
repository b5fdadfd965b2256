/-! the rows of code are the bytes, printed by wip/gen/cod.py -/
def zPk (y j : Nat) : Bool := (((zK y).drop (60 * j)).take 60).all (fun r => zchk y r && zchkF y r)
set_option maxRecDepth 100000 in
theorem zk_0_0 : zPk 0 0 = true := by decide +kernel
set_option maxRecDepth 100000 in
theorem zk_1_0 : zPk 1 0 = true := by decide +kernel
set_option maxRecDepth 100000 in
theorem zk_2_0 : zPk 2 0 = true := by decide +kernel
set_option maxRecDepth 100000 in
theorem zk_3_0 : zPk 3 0 = true := by decide +kernel
set_option maxRecDepth 100000 in
theorem zk_4_0 : zPk 4 0 = true := by decide +kernel
set_option maxRecDepth 100000 in
theorem zk_5_0 : zPk 5 0 = true := by decide +kernel
set_option maxRecDepth 100000 in
theorem zk_6_0 : zPk 6 0 = true := by decide +kernel
set_option maxRecDepth 100000 in
theorem zk_7_0 : zPk 7 0 = true := by decide +kernel
set_option maxRecDepth 100000 in
theorem zk_8_0 : zPk 8 0 = true := by decide +kernel
set_option maxRecDepth 100000 in
theorem zk_9_0 : zPk 9 0 = true := by decide +kernel
set_option maxRecDepth 100000 in
theorem zk_10_0 : zPk 10 0 = true := by decide +kernel
set_option maxRecDepth 100000 in
theorem zk_11_0 : zPk 11 0 = true := by decide +kernel
set_option maxRecDepth 100000 in
theorem zk_12_0 : zPk 12 0 = true := by decide +kernel
set_option maxRecDepth 100000 in
theorem zk_13_0 : zPk 13 0 = true := by decide +kernel
set_option maxRecDepth 100000 in
theorem zk_14_0 : zPk 14 0 = true := by decide +kernel
set_option maxRecDepth 100000 in
theorem zk_14_1 : zPk 14 1 = true := by decide +kernel
set_option maxRecDepth 100000 in
theorem zk_15_0 : zPk 15 0 = true := by decide +kernel
set_option maxRecDepth 100000 in
theorem zk_16_0 : zPk 16 0 = true := by decide +kernel
set_option maxRecDepth 100000 in
theorem zk_17_0 : zPk 17 0 = true := by decide +kernel
set_option maxRecDepth 100000 in
theorem zk_18_0 : zPk 18 0 = true := by decide +kernel
set_option maxRecDepth 100000 in
theorem zk_19_0 : zPk 19 0 = true := by decide +kernel
set_option maxRecDepth 100000 in
theorem zk_20_0 : zPk 20 0 = true := by decide +kernel
set_option maxRecDepth 100000 in
theorem zk_21_0 : zPk 21 0 = true := by decide +kernel
set_option maxRecDepth 100000 in
theorem zk_22_0 : zPk 22 0 = true := by decide +kernel
set_option maxRecDepth 100000 in
theorem zk_23_0 : zPk 23 0 = true := by decide +kernel
set_option maxRecDepth 100000 in
theorem zk_24_0 : zPk 24 0 = true := by decide +kernel
set_option maxRecDepth 100000 in
theorem zk_25_0 : zPk 25 0 = true := by decide +kernel
set_option maxRecDepth 100000 in
theorem zk_25_1 : zPk 25 1 = true := by decide +kernel
set_option maxRecDepth 100000 in
theorem zk_26_0 : zPk 26 0 = true := by decide +kernel
set_option maxRecDepth 100000 in
theorem zk_27_0 : zPk 27 0 = true := by decide +kernel
set_option maxRecDepth 100000 in
theorem zk_28_0 : zPk 28 0 = true := by decide +kernel
set_option maxRecDepth 100000 in
theorem zk_29_0 : zPk 29 0 = true := by decide +kernel
set_option maxRecDepth 100000 in
theorem zk_30_0 : zPk 30 0 = true := by decide +kernel
set_option maxRecDepth 100000 in
theorem zk_31_0 : zPk 31 0 = true := by decide +kernel
set_option maxRecDepth 100000 in
theorem zk_32_0 : zPk 32 0 = true := by decide +kernel
set_option maxRecDepth 100000 in
theorem zk_33_0 : zPk 33 0 = true := by decide +kernel
set_option maxRecDepth 100000 in
theorem zk_34_0 : zPk 34 0 = true := by decide +kernel
set_option maxRecDepth 100000 in
theorem zk_35_0 : zPk 35 0 = true := by decide +kernel
set_option maxRecDepth 100000 in
theorem zk_36_0 : zPk 36 0 = true := by decide +kernel
set_option maxRecDepth 100000 in
theorem zk_37_0 : zPk 37 0 = true := by decide +kernel
set_option maxRecDepth 100000 in
theorem zk_38_0 : zPk 38 0 = true := by decide +kernel
set_option maxRecDepth 100000 in
theorem zk_39_0 : zPk 39 0 = true := by decide +kernel
set_option maxRecDepth 100000 in
theorem zk_40_0 : zPk 40 0 = true := by decide +kernel
set_option maxRecDepth 100000 in
theorem zk_41_0 : zPk 41 0 = true := by decide +kernel
set_option maxRecDepth 100000 in
theorem zk_42_0 : zPk 42 0 = true := by decide +kernel
set_option maxRecDepth 100000 in
theorem zk_43_0 : zPk 43 0 = true := by decide +kernel
set_option maxRecDepth 100000 in
theorem zk_44_0 : zPk 44 0 = true := by decide +kernel
set_option maxRecDepth 100000 in
theorem zk_45_0 : zPk 45 0 = true := by decide +kernel
set_option maxRecDepth 100000 in
theorem zk_46_0 : zPk 46 0 = true := by decide +kernel
set_option maxRecDepth 100000 in
theorem zk_47_0 : zPk 47 0 = true := by decide +kernel
set_option maxRecDepth 100000 in
theorem zk_48_0 : zPk 48 0 = true := by decide +kernel
set_option maxRecDepth 100000 in
theorem zk_49_0 : zPk 49 0 = true := by decide +kernel
set_option maxRecDepth 100000 in
theorem zk_50_0 : zPk 50 0 = true := by decide +kernel
set_option maxRecDepth 100000 in
theorem zk_50_1 : zPk 50 1 = true := by decide +kernel
set_option maxRecDepth 100000 in
theorem zk_51_0 : zPk 51 0 = true := by decide +kernel
set_option maxRecDepth 100000 in
theorem zk_52_0 : zPk 52 0 = true := by decide +kernel
set_option maxRecDepth 100000 in
theorem zk_52_1 : zPk 52 1 = true := by decide +kernel
set_option maxRecDepth 100000 in
theorem zk_53_0 : zPk 53 0 = true := by decide +kernel
set_option maxRecDepth 100000 in
theorem zk_54_0 : zPk 54 0 = true := by decide +kernel
set_option maxRecDepth 100000 in
theorem zk_55_0 : zPk 55 0 = true := by decide +kernel
