/-! the rows of code are the bytes, printed by wip/gen/cod.py -/
set_option maxRecDepth 100000 in
theorem zk_103_0 : zPk 103 0 = true := by decide +kernel
set_option maxRecDepth 100000 in
theorem zk_104_0 : zPk 104 0 = true := by decide +kernel
set_option maxRecDepth 100000 in
theorem zk_104_1 : zPk 104 1 = true := by decide +kernel
set_option maxRecDepth 100000 in
theorem zk_105_0 : zPk 105 0 = true := by decide +kernel
set_option maxRecDepth 100000 in
theorem zk_106_0 : zPk 106 0 = true := by decide +kernel
set_option maxRecDepth 100000 in
theorem zk_107_0 : zPk 107 0 = true := by decide +kernel
set_option maxRecDepth 100000 in
theorem zk_108_0 : zPk 108 0 = true := by decide +kernel
set_option maxRecDepth 100000 in
theorem zk_109_0 : zPk 109 0 = true := by decide +kernel
set_option maxRecDepth 100000 in
theorem zk_110_0 : zPk 110 0 = true := by decide +kernel
set_option maxRecDepth 100000 in
theorem zk_111_0 : zPk 111 0 = true := by decide +kernel
set_option maxRecDepth 100000 in
theorem zk_112_0 : zPk 112 0 = true := by decide +kernel
set_option maxRecDepth 100000 in
theorem zk_113_0 : zPk 113 0 = true := by decide +kernel
set_option maxRecDepth 100000 in
theorem zk_113_1 : zPk 113 1 = true := by decide +kernel
set_option maxRecDepth 100000 in
theorem zk_114_0 : zPk 114 0 = true := by decide +kernel
set_option maxRecDepth 100000 in
theorem zk_115_0 : zPk 115 0 = true := by decide +kernel
set_option maxRecDepth 100000 in
theorem zk_116_0 : zPk 116 0 = true := by decide +kernel
set_option maxRecDepth 100000 in
theorem zk_117_0 : zPk 117 0 = true := by decide +kernel
set_option maxRecDepth 100000 in
theorem zk_118_0 : zPk 118 0 = true := by decide +kernel
set_option maxRecDepth 100000 in
theorem zk_119_0 : zPk 119 0 = true := by decide +kernel
set_option maxRecDepth 100000 in
theorem zk_120_0 : zPk 120 0 = true := by decide +kernel
set_option maxRecDepth 100000 in
theorem zk_121_0 : zPk 121 0 = true := by decide +kernel
set_option maxRecDepth 100000 in
theorem zk_122_0 : zPk 122 0 = true := by decide +kernel
set_option maxRecDepth 100000 in
theorem zk_122_1 : zPk 122 1 = true := by decide +kernel
set_option maxRecDepth 100000 in
theorem zk_123_0 : zPk 123 0 = true := by decide +kernel
set_option maxRecDepth 100000 in
theorem zk_124_0 : zPk 124 0 = true := by decide +kernel
set_option maxRecDepth 100000 in
theorem zk_125_0 : zPk 125 0 = true := by decide +kernel
set_option maxRecDepth 100000 in
theorem zk_126_0 : zPk 126 0 = true := by decide +kernel
set_option maxRecDepth 100000 in
theorem zk_127_0 : zPk 127 0 = true := by decide +kernel
set_option maxRecDepth 100000 in
theorem zk_127_1 : zPk 127 1 = true := by decide +kernel
set_option maxRecDepth 100000 in
theorem zk_128_0 : zPk 128 0 = true := by decide +kernel
set_option maxRecDepth 100000 in
theorem zk_129_0 : zPk 129 0 = true := by decide +kernel
set_option maxRecDepth 100000 in
theorem zk_130_0 : zPk 130 0 = true := by decide +kernel
set_option maxRecDepth 100000 in
theorem zk_131_0 : zPk 131 0 = true := by decide +kernel
set_option maxRecDepth 100000 in
theorem zk_132_0 : zPk 132 0 = true := by decide +kernel
set_option maxRecDepth 100000 in
theorem zk_132_1 : zPk 132 1 = true := by decide +kernel
set_option maxRecDepth 100000 in
theorem zk_133_0 : zPk 133 0 = true := by decide +kernel
set_option maxRecDepth 100000 in
theorem zk_133_1 : zPk 133 1 = true := by decide +kernel
set_option maxRecDepth 100000 in
theorem zk_134_0 : zPk 134 0 = true := by decide +kernel
set_option maxRecDepth 100000 in
theorem zk_135_0 : zPk 135 0 = true := by decide +kernel
set_option maxRecDepth 100000 in
theorem zk_136_0 : zPk 136 0 = true := by decide +kernel
set_option maxRecDepth 100000 in
theorem zk_136_1 : zPk 136 1 = true := by decide +kernel
set_option maxRecDepth 100000 in
theorem zk_137_0 : zPk 137 0 = true := by decide +kernel
set_option maxRecDepth 100000 in
theorem zk_138_0 : zPk 138 0 = true := by decide +kernel
set_option maxRecDepth 100000 in
theorem zk_139_0 : zPk 139 0 = true := by decide +kernel
set_option maxRecDepth 100000 in
theorem zk_139_1 : zPk 139 1 = true := by decide +kernel
set_option maxRecDepth 100000 in
theorem zk_140_0 : zPk 140 0 = true := by decide +kernel
set_option maxRecDepth 100000 in
theorem zk_141_0 : zPk 141 0 = true := by decide +kernel
set_option maxRecDepth 100000 in
theorem zk_142_0 : zPk 142 0 = true := by decide +kernel
set_option maxRecDepth 100000 in
theorem zk_143_0 : zPk 143 0 = true := by decide +kernel
set_option maxRecDepth 100000 in
theorem zk_144_0 : zPk 144 0 = true := by decide +kernel
set_option maxRecDepth 100000 in
theorem zk_145_0 : zPk 145 0 = true := by decide +kernel
set_option maxRecDepth 100000 in
theorem zk_146_0 : zPk 146 0 = true := by decide +kernel
set_option maxRecDepth 100000 in
theorem zk_147_0 : zPk 147 0 = true := by decide +kernel
set_option maxRecDepth 100000 in
theorem zk_148_0 : zPk 148 0 = true := by decide +kernel
set_option maxRecDepth 100000 in
theorem zk_149_0 : zPk 149 0 = true := by decide +kernel
set_option maxRecDepth 100000 in
theorem zk_150_0 : zPk 150 0 = true := by decide +kernel
set_option maxRecDepth 100000 in
theorem zk_151_0 : zPk 151 0 = true := by decide +kernel
set_option maxRecDepth 100000 in
theorem zk_151_1 : zPk 151 1 = true := by decide +kernel
set_option maxRecDepth 100000 in
theorem zk_152_0 : zPk 152 0 = true := by decide +kernel
set_option maxRecDepth 100000 in
theorem zk_152_1 : zPk 152 1 = true := by decide +kernel
