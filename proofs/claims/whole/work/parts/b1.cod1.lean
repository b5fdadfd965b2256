/-! the rows of code are the bytes, printed by wip/gen/cod.py -/
set_option maxRecDepth 100000 in
theorem zk_56_0 : zPk 56 0 = true := by decide +kernel
set_option maxRecDepth 100000 in
theorem zk_57_0 : zPk 57 0 = true := by decide +kernel
set_option maxRecDepth 100000 in
theorem zk_58_0 : zPk 58 0 = true := by decide +kernel
set_option maxRecDepth 100000 in
theorem zk_58_1 : zPk 58 1 = true := by decide +kernel
set_option maxRecDepth 100000 in
theorem zk_59_0 : zPk 59 0 = true := by decide +kernel
set_option maxRecDepth 100000 in
theorem zk_59_1 : zPk 59 1 = true := by decide +kernel
set_option maxRecDepth 100000 in
theorem zk_60_0 : zPk 60 0 = true := by decide +kernel
set_option maxRecDepth 100000 in
theorem zk_61_0 : zPk 61 0 = true := by decide +kernel
set_option maxRecDepth 100000 in
theorem zk_62_0 : zPk 62 0 = true := by decide +kernel
set_option maxRecDepth 100000 in
theorem zk_63_0 : zPk 63 0 = true := by decide +kernel
set_option maxRecDepth 100000 in
theorem zk_64_0 : zPk 64 0 = true := by decide +kernel
set_option maxRecDepth 100000 in
theorem zk_64_1 : zPk 64 1 = true := by decide +kernel
set_option maxRecDepth 100000 in
theorem zk_65_0 : zPk 65 0 = true := by decide +kernel
set_option maxRecDepth 100000 in
theorem zk_66_0 : zPk 66 0 = true := by decide +kernel
set_option maxRecDepth 100000 in
theorem zk_67_0 : zPk 67 0 = true := by decide +kernel
set_option maxRecDepth 100000 in
theorem zk_68_0 : zPk 68 0 = true := by decide +kernel
set_option maxRecDepth 100000 in
theorem zk_68_1 : zPk 68 1 = true := by decide +kernel
set_option maxRecDepth 100000 in
theorem zk_68_2 : zPk 68 2 = true := by decide +kernel
set_option maxRecDepth 100000 in
theorem zk_69_0 : zPk 69 0 = true := by decide +kernel
set_option maxRecDepth 100000 in
theorem zk_70_0 : zPk 70 0 = true := by decide +kernel
set_option maxRecDepth 100000 in
theorem zk_71_0 : zPk 71 0 = true := by decide +kernel
set_option maxRecDepth 100000 in
theorem zk_72_0 : zPk 72 0 = true := by decide +kernel
set_option maxRecDepth 100000 in
theorem zk_73_0 : zPk 73 0 = true := by decide +kernel
set_option maxRecDepth 100000 in
theorem zk_74_0 : zPk 74 0 = true := by decide +kernel
set_option maxRecDepth 100000 in
theorem zk_75_0 : zPk 75 0 = true := by decide +kernel
set_option maxRecDepth 100000 in
theorem zk_76_0 : zPk 76 0 = true := by decide +kernel
set_option maxRecDepth 100000 in
theorem zk_77_0 : zPk 77 0 = true := by decide +kernel
set_option maxRecDepth 100000 in
theorem zk_78_0 : zPk 78 0 = true := by decide +kernel
set_option maxRecDepth 100000 in
theorem zk_79_0 : zPk 79 0 = true := by decide +kernel
set_option maxRecDepth 100000 in
theorem zk_80_0 : zPk 80 0 = true := by decide +kernel
set_option maxRecDepth 100000 in
theorem zk_81_0 : zPk 81 0 = true := by decide +kernel
set_option maxRecDepth 100000 in
theorem zk_81_1 : zPk 81 1 = true := by decide +kernel
set_option maxRecDepth 100000 in
theorem zk_82_0 : zPk 82 0 = true := by decide +kernel
set_option maxRecDepth 100000 in
theorem zk_83_0 : zPk 83 0 = true := by decide +kernel
set_option maxRecDepth 100000 in
theorem zk_84_0 : zPk 84 0 = true := by decide +kernel
set_option maxRecDepth 100000 in
theorem zk_84_1 : zPk 84 1 = true := by decide +kernel
set_option maxRecDepth 100000 in
theorem zk_84_2 : zPk 84 2 = true := by decide +kernel
set_option maxRecDepth 100000 in
theorem zk_85_0 : zPk 85 0 = true := by decide +kernel
set_option maxRecDepth 100000 in
theorem zk_86_0 : zPk 86 0 = true := by decide +kernel
set_option maxRecDepth 100000 in
theorem zk_87_0 : zPk 87 0 = true := by decide +kernel
set_option maxRecDepth 100000 in
theorem zk_88_0 : zPk 88 0 = true := by decide +kernel
set_option maxRecDepth 100000 in
theorem zk_89_0 : zPk 89 0 = true := by decide +kernel
set_option maxRecDepth 100000 in
theorem zk_90_0 : zPk 90 0 = true := by decide +kernel
set_option maxRecDepth 100000 in
theorem zk_91_0 : zPk 91 0 = true := by decide +kernel
set_option maxRecDepth 100000 in
theorem zk_92_0 : zPk 92 0 = true := by decide +kernel
set_option maxRecDepth 100000 in
theorem zk_92_1 : zPk 92 1 = true := by decide +kernel
set_option maxRecDepth 100000 in
theorem zk_93_0 : zPk 93 0 = true := by decide +kernel
set_option maxRecDepth 100000 in
theorem zk_94_0 : zPk 94 0 = true := by decide +kernel
set_option maxRecDepth 100000 in
theorem zk_95_0 : zPk 95 0 = true := by decide +kernel
set_option maxRecDepth 100000 in
theorem zk_96_0 : zPk 96 0 = true := by decide +kernel
set_option maxRecDepth 100000 in
theorem zk_97_0 : zPk 97 0 = true := by decide +kernel
set_option maxRecDepth 100000 in
theorem zk_98_0 : zPk 98 0 = true := by decide +kernel
set_option maxRecDepth 100000 in
theorem zk_99_0 : zPk 99 0 = true := by decide +kernel
set_option maxRecDepth 100000 in
theorem zk_100_0 : zPk 100 0 = true := by decide +kernel
set_option maxRecDepth 100000 in
theorem zk_100_1 : zPk 100 1 = true := by decide +kernel
set_option maxRecDepth 100000 in
theorem zk_101_0 : zPk 101 0 = true := by decide +kernel
set_option maxRecDepth 100000 in
theorem zk_101_1 : zPk 101 1 = true := by decide +kernel
set_option maxRecDepth 100000 in
theorem zk_102_0 : zPk 102 0 = true := by decide +kernel
set_option maxRecDepth 100000 in
theorem zk_102_1 : zPk 102 1 = true := by decide +kernel
set_option maxRecDepth 100000 in
theorem zk_102_2 : zPk 102 2 = true := by decide +kernel
