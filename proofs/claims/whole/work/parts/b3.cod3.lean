/-! the rows of code are the bytes, printed by wip/gen/cod.py -/
set_option maxRecDepth 100000 in
theorem zk_153_0 : zPk 153 0 = true := by decide +kernel
set_option maxRecDepth 100000 in
theorem zk_154_0 : zPk 154 0 = true := by decide +kernel
set_option maxRecDepth 100000 in
theorem zk_155_0 : zPk 155 0 = true := by decide +kernel
set_option maxRecDepth 100000 in
theorem zk_155_1 : zPk 155 1 = true := by decide +kernel
set_option maxRecDepth 100000 in
theorem zk_155_2 : zPk 155 2 = true := by decide +kernel
set_option maxRecDepth 100000 in
theorem zk_156_0 : zPk 156 0 = true := by decide +kernel
set_option maxRecDepth 100000 in
theorem zk_157_0 : zPk 157 0 = true := by decide +kernel
set_option maxRecDepth 100000 in
theorem zk_158_0 : zPk 158 0 = true := by decide +kernel
set_option maxRecDepth 100000 in
theorem zk_159_0 : zPk 159 0 = true := by decide +kernel
set_option maxRecDepth 100000 in
theorem zk_159_1 : zPk 159 1 = true := by decide +kernel
set_option maxRecDepth 100000 in
theorem zk_160_0 : zPk 160 0 = true := by decide +kernel
set_option maxRecDepth 100000 in
theorem zk_161_0 : zPk 161 0 = true := by decide +kernel
set_option maxRecDepth 100000 in
theorem zk_162_0 : zPk 162 0 = true := by decide +kernel
set_option maxRecDepth 100000 in
theorem zk_163_0 : zPk 163 0 = true := by decide +kernel
set_option maxRecDepth 100000 in
theorem zk_164_0 : zPk 164 0 = true := by decide +kernel
set_option maxRecDepth 100000 in
theorem zk_165_0 : zPk 165 0 = true := by decide +kernel
set_option maxRecDepth 100000 in
theorem zk_165_1 : zPk 165 1 = true := by decide +kernel
set_option maxRecDepth 100000 in
theorem zk_166_0 : zPk 166 0 = true := by decide +kernel
set_option maxRecDepth 100000 in
theorem zk_167_0 : zPk 167 0 = true := by decide +kernel
set_option maxRecDepth 100000 in
theorem zk_167_1 : zPk 167 1 = true := by decide +kernel
set_option maxRecDepth 100000 in
theorem zk_168_0 : zPk 168 0 = true := by decide +kernel
set_option maxRecDepth 100000 in
theorem zk_169_0 : zPk 169 0 = true := by decide +kernel
set_option maxRecDepth 100000 in
theorem zk_170_0 : zPk 170 0 = true := by decide +kernel
set_option maxRecDepth 100000 in
theorem zk_171_0 : zPk 171 0 = true := by decide +kernel
set_option maxRecDepth 100000 in
theorem zk_172_0 : zPk 172 0 = true := by decide +kernel
set_option maxRecDepth 100000 in
theorem zk_173_0 : zPk 173 0 = true := by decide +kernel
set_option maxRecDepth 100000 in
theorem zk_174_0 : zPk 174 0 = true := by decide +kernel
set_option maxRecDepth 100000 in
theorem zk_175_0 : zPk 175 0 = true := by decide +kernel
set_option maxRecDepth 100000 in
theorem zk_176_0 : zPk 176 0 = true := by decide +kernel
set_option maxRecDepth 100000 in
theorem zk_177_0 : zPk 177 0 = true := by decide +kernel
set_option maxRecDepth 100000 in
theorem zk_178_0 : zPk 178 0 = true := by decide +kernel
set_option maxRecDepth 100000 in
theorem zk_178_1 : zPk 178 1 = true := by decide +kernel
set_option maxRecDepth 100000 in
theorem zk_178_2 : zPk 178 2 = true := by decide +kernel
set_option maxRecDepth 100000 in
theorem zk_179_0 : zPk 179 0 = true := by decide +kernel
set_option maxRecDepth 100000 in
theorem zk_179_1 : zPk 179 1 = true := by decide +kernel
set_option maxRecDepth 100000 in
theorem zk_180_0 : zPk 180 0 = true := by decide +kernel
set_option maxRecDepth 100000 in
theorem zk_180_1 : zPk 180 1 = true := by decide +kernel
set_option maxRecDepth 100000 in
theorem zk_181_0 : zPk 181 0 = true := by decide +kernel
set_option maxRecDepth 100000 in
theorem zk_182_0 : zPk 182 0 = true := by decide +kernel
set_option maxRecDepth 100000 in
theorem zk_183_0 : zPk 183 0 = true := by decide +kernel
set_option maxRecDepth 100000 in
theorem zk_184_0 : zPk 184 0 = true := by decide +kernel
set_option maxRecDepth 100000 in
theorem zk_184_1 : zPk 184 1 = true := by decide +kernel
set_option maxRecDepth 100000 in
theorem zk_185_0 : zPk 185 0 = true := by decide +kernel
set_option maxRecDepth 100000 in
theorem zk_186_0 : zPk 186 0 = true := by decide +kernel
set_option maxRecDepth 100000 in
theorem zk_187_0 : zPk 187 0 = true := by decide +kernel
set_option maxRecDepth 100000 in
theorem zk_188_0 : zPk 188 0 = true := by decide +kernel
set_option maxRecDepth 100000 in
theorem zk_189_0 : zPk 189 0 = true := by decide +kernel
set_option maxRecDepth 100000 in
theorem zk_189_1 : zPk 189 1 = true := by decide +kernel
set_option maxRecDepth 100000 in
theorem zk_189_2 : zPk 189 2 = true := by decide +kernel
set_option maxRecDepth 100000 in
theorem zk_190_0 : zPk 190 0 = true := by decide +kernel
set_option maxRecDepth 100000 in
theorem zk_190_1 : zPk 190 1 = true := by decide +kernel
set_option maxRecDepth 100000 in
theorem zk_191_0 : zPk 191 0 = true := by decide +kernel
set_option maxRecDepth 100000 in
theorem zk_192_0 : zPk 192 0 = true := by decide +kernel
set_option maxRecDepth 100000 in
theorem zk_192_1 : zPk 192 1 = true := by decide +kernel
set_option maxRecDepth 100000 in
theorem zk_192_2 : zPk 192 2 = true := by decide +kernel
set_option maxRecDepth 100000 in
theorem zk_193_0 : zPk 193 0 = true := by decide +kernel
set_option maxRecDepth 100000 in
theorem zk_193_1 : zPk 193 1 = true := by decide +kernel
set_option maxRecDepth 100000 in
theorem zk_193_2 : zPk 193 2 = true := by decide +kernel
set_option maxRecDepth 100000 in
theorem zk_194_0 : zPk 194 0 = true := by decide +kernel
set_option maxRecDepth 100000 in
theorem zk_195_0 : zPk 195 0 = true := by decide +kernel
