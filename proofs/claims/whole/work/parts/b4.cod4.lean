/-! the rows of code are the bytes, printed by wip/gen/cod.py -/
set_option maxRecDepth 100000 in
theorem zk_196_0 : zPk 196 0 = true := by decide +kernel
set_option maxRecDepth 100000 in
theorem zk_197_0 : zPk 197 0 = true := by decide +kernel
set_option maxRecDepth 100000 in
theorem zk_198_0 : zPk 198 0 = true := by decide +kernel
set_option maxRecDepth 100000 in
theorem zk_199_0 : zPk 199 0 = true := by decide +kernel
set_option maxRecDepth 100000 in
theorem zk_199_1 : zPk 199 1 = true := by decide +kernel
set_option maxRecDepth 100000 in
theorem zk_200_0 : zPk 200 0 = true := by decide +kernel
set_option maxRecDepth 100000 in
theorem zk_201_0 : zPk 201 0 = true := by decide +kernel
set_option maxRecDepth 100000 in
theorem zk_202_0 : zPk 202 0 = true := by decide +kernel
set_option maxRecDepth 100000 in
theorem zk_203_0 : zPk 203 0 = true := by decide +kernel
set_option maxRecDepth 100000 in
theorem zk_204_0 : zPk 204 0 = true := by decide +kernel
set_option maxRecDepth 100000 in
theorem zk_204_1 : zPk 204 1 = true := by decide +kernel
set_option maxRecDepth 100000 in
theorem zk_205_0 : zPk 205 0 = true := by decide +kernel
set_option maxRecDepth 100000 in
theorem zk_205_1 : zPk 205 1 = true := by decide +kernel
set_option maxRecDepth 100000 in
theorem zk_206_0 : zPk 206 0 = true := by decide +kernel
set_option maxRecDepth 100000 in
theorem zk_206_1 : zPk 206 1 = true := by decide +kernel
set_option maxRecDepth 100000 in
theorem zk_206_2 : zPk 206 2 = true := by decide +kernel
set_option maxRecDepth 100000 in
theorem zk_207_0 : zPk 207 0 = true := by decide +kernel
set_option maxRecDepth 100000 in
theorem zk_207_1 : zPk 207 1 = true := by decide +kernel
set_option maxRecDepth 100000 in
theorem zk_208_0 : zPk 208 0 = true := by decide +kernel
set_option maxRecDepth 100000 in
theorem zk_208_1 : zPk 208 1 = true := by decide +kernel
set_option maxRecDepth 100000 in
theorem zk_209_0 : zPk 209 0 = true := by decide +kernel
set_option maxRecDepth 100000 in
theorem zk_209_1 : zPk 209 1 = true := by decide +kernel
set_option maxRecDepth 100000 in
theorem zk_209_2 : zPk 209 2 = true := by decide +kernel
set_option maxRecDepth 100000 in
theorem zk_209_3 : zPk 209 3 = true := by decide +kernel
set_option maxRecDepth 100000 in
theorem zk_210_0 : zPk 210 0 = true := by decide +kernel
set_option maxRecDepth 100000 in
theorem zk_210_1 : zPk 210 1 = true := by decide +kernel
set_option maxRecDepth 100000 in
theorem zk_211_0 : zPk 211 0 = true := by decide +kernel
set_option maxRecDepth 100000 in
theorem zk_211_1 : zPk 211 1 = true := by decide +kernel
set_option maxRecDepth 100000 in
theorem zk_212_0 : zPk 212 0 = true := by decide +kernel
set_option maxRecDepth 100000 in
theorem zk_213_0 : zPk 213 0 = true := by decide +kernel
set_option maxRecDepth 100000 in
theorem zk_214_0 : zPk 214 0 = true := by decide +kernel
set_option maxRecDepth 100000 in
theorem zk_214_1 : zPk 214 1 = true := by decide +kernel
set_option maxRecDepth 100000 in
theorem zk_214_2 : zPk 214 2 = true := by decide +kernel
set_option maxRecDepth 100000 in
theorem zk_215_0 : zPk 215 0 = true := by decide +kernel
set_option maxRecDepth 100000 in
theorem zk_216_0 : zPk 216 0 = true := by decide +kernel
set_option maxRecDepth 100000 in
theorem zk_216_1 : zPk 216 1 = true := by decide +kernel
set_option maxRecDepth 100000 in
theorem zk_217_0 : zPk 217 0 = true := by decide +kernel
set_option maxRecDepth 100000 in
theorem zk_218_0 : zPk 218 0 = true := by decide +kernel
set_option maxRecDepth 100000 in
theorem zk_218_1 : zPk 218 1 = true := by decide +kernel
set_option maxRecDepth 100000 in
theorem zk_219_0 : zPk 219 0 = true := by decide +kernel
set_option maxRecDepth 100000 in
theorem zk_219_1 : zPk 219 1 = true := by decide +kernel
set_option maxRecDepth 100000 in
theorem zk_220_0 : zPk 220 0 = true := by decide +kernel
set_option maxRecDepth 100000 in
theorem zk_220_1 : zPk 220 1 = true := by decide +kernel
set_option maxRecDepth 100000 in
theorem zk_220_2 : zPk 220 2 = true := by decide +kernel
set_option maxRecDepth 100000 in
theorem zk_220_3 : zPk 220 3 = true := by decide +kernel
set_option maxRecDepth 100000 in
theorem zk_221_0 : zPk 221 0 = true := by decide +kernel
set_option maxRecDepth 100000 in
theorem zk_222_0 : zPk 222 0 = true := by decide +kernel
set_option maxRecDepth 100000 in
theorem zk_222_1 : zPk 222 1 = true := by decide +kernel
set_option maxRecDepth 100000 in
theorem zk_223_0 : zPk 223 0 = true := by decide +kernel
set_option maxRecDepth 100000 in
theorem zk_223_1 : zPk 223 1 = true := by decide +kernel
set_option maxRecDepth 100000 in
theorem zk_224_0 : zPk 224 0 = true := by decide +kernel
set_option maxRecDepth 100000 in
theorem zk_224_1 : zPk 224 1 = true := by decide +kernel
set_option maxRecDepth 100000 in
theorem zk_225_0 : zPk 225 0 = true := by decide +kernel
set_option maxRecDepth 100000 in
theorem zk_225_1 : zPk 225 1 = true := by decide +kernel
set_option maxRecDepth 100000 in
theorem zk_226_0 : zPk 226 0 = true := by decide +kernel
set_option maxRecDepth 100000 in
theorem zk_227_0 : zPk 227 0 = true := by decide +kernel
set_option maxRecDepth 100000 in
theorem zk_227_1 : zPk 227 1 = true := by decide +kernel
set_option maxRecDepth 100000 in
theorem zk_227_2 : zPk 227 2 = true := by decide +kernel
set_option maxRecDepth 100000 in
theorem zk_228_0 : zPk 228 0 = true := by decide +kernel
set_option maxRecDepth 100000 in
theorem zk_229_0 : zPk 229 0 = true := by decide +kernel
