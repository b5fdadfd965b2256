/-! the rows of code are the bytes, printed by wip/gen/cod.py -/
set_option maxRecDepth 100000 in
theorem zk_229_1 : zPk 229 1 = true := by decide +kernel
set_option maxRecDepth 100000 in
theorem zk_230_0 : zPk 230 0 = true := by decide +kernel
set_option maxRecDepth 100000 in
theorem zk_230_1 : zPk 230 1 = true := by decide +kernel
set_option maxRecDepth 100000 in
theorem zk_231_0 : zPk 231 0 = true := by decide +kernel
set_option maxRecDepth 100000 in
theorem zk_232_0 : zPk 232 0 = true := by decide +kernel
set_option maxRecDepth 100000 in
theorem zk_233_0 : zPk 233 0 = true := by decide +kernel
set_option maxRecDepth 100000 in
theorem zk_233_1 : zPk 233 1 = true := by decide +kernel
set_option maxRecDepth 100000 in
theorem zk_233_2 : zPk 233 2 = true := by decide +kernel
set_option maxRecDepth 100000 in
theorem zk_234_0 : zPk 234 0 = true := by decide +kernel
set_option maxRecDepth 100000 in
theorem zk_234_1 : zPk 234 1 = true := by decide +kernel
set_option maxRecDepth 100000 in
theorem zk_235_0 : zPk 235 0 = true := by decide +kernel
set_option maxRecDepth 100000 in
theorem zk_236_0 : zPk 236 0 = true := by decide +kernel
set_option maxRecDepth 100000 in
theorem zk_237_0 : zPk 237 0 = true := by decide +kernel
set_option maxRecDepth 100000 in
theorem zk_237_1 : zPk 237 1 = true := by decide +kernel
set_option maxRecDepth 100000 in
theorem zk_237_2 : zPk 237 2 = true := by decide +kernel
set_option maxRecDepth 100000 in
theorem zk_238_0 : zPk 238 0 = true := by decide +kernel
set_option maxRecDepth 100000 in
theorem zk_239_0 : zPk 239 0 = true := by decide +kernel
set_option maxRecDepth 100000 in
theorem zk_240_0 : zPk 240 0 = true := by decide +kernel
set_option maxRecDepth 100000 in
theorem zk_240_1 : zPk 240 1 = true := by decide +kernel
set_option maxRecDepth 100000 in
theorem zk_241_0 : zPk 241 0 = true := by decide +kernel
set_option maxRecDepth 100000 in
theorem zk_242_0 : zPk 242 0 = true := by decide +kernel
set_option maxRecDepth 100000 in
theorem zk_242_1 : zPk 242 1 = true := by decide +kernel
set_option maxRecDepth 100000 in
theorem zk_242_2 : zPk 242 2 = true := by decide +kernel
set_option maxRecDepth 100000 in
theorem zk_243_0 : zPk 243 0 = true := by decide +kernel
set_option maxRecDepth 100000 in
theorem zk_243_1 : zPk 243 1 = true := by decide +kernel
set_option maxRecDepth 100000 in
theorem zk_244_0 : zPk 244 0 = true := by decide +kernel
set_option maxRecDepth 100000 in
theorem zk_245_0 : zPk 245 0 = true := by decide +kernel
set_option maxRecDepth 100000 in
theorem zk_245_1 : zPk 245 1 = true := by decide +kernel
set_option maxRecDepth 100000 in
theorem zk_245_2 : zPk 245 2 = true := by decide +kernel
set_option maxRecDepth 100000 in
theorem zk_246_0 : zPk 246 0 = true := by decide +kernel
set_option maxRecDepth 100000 in
theorem zk_247_0 : zPk 247 0 = true := by decide +kernel
set_option maxRecDepth 100000 in
theorem zk_248_0 : zPk 248 0 = true := by decide +kernel
set_option maxRecDepth 100000 in
theorem zk_249_0 : zPk 249 0 = true := by decide +kernel
set_option maxRecDepth 100000 in
theorem zk_250_0 : zPk 250 0 = true := by decide +kernel
set_option maxRecDepth 100000 in
theorem zk_251_0 : zPk 251 0 = true := by decide +kernel
set_option maxRecDepth 100000 in
theorem zk_252_0 : zPk 252 0 = true := by decide +kernel
set_option maxRecDepth 100000 in
theorem zk_253_0 : zPk 253 0 = true := by decide +kernel
set_option maxRecDepth 100000 in
theorem zk_253_1 : zPk 253 1 = true := by decide +kernel
set_option maxRecDepth 100000 in
theorem zk_254_0 : zPk 254 0 = true := by decide +kernel
set_option maxRecDepth 100000 in
theorem zk_254_1 : zPk 254 1 = true := by decide +kernel
set_option maxRecDepth 100000 in
theorem zk_255_0 : zPk 255 0 = true := by decide +kernel
set_option maxRecDepth 100000 in
theorem zk_255_1 : zPk 255 1 = true := by decide +kernel
set_option maxRecDepth 100000 in
theorem zk_255_2 : zPk 255 2 = true := by decide +kernel
set_option maxRecDepth 100000 in
theorem zk_255_3 : zPk 255 3 = true := by decide +kernel
set_option maxRecDepth 100000 in
theorem zk_255_4 : zPk 255 4 = true := by decide +kernel
set_option maxRecDepth 100000 in
theorem zk_255_5 : zPk 255 5 = true := by decide +kernel
set_option maxRecDepth 100000 in
theorem zk_255_6 : zPk 255 6 = true := by decide +kernel
set_option maxRecDepth 100000 in
theorem zk_255_7 : zPk 255 7 = true := by decide +kernel
set_option maxRecDepth 100000 in
theorem zk_255_8 : zPk 255 8 = true := by decide +kernel
set_option maxRecDepth 100000 in
theorem zk_255_9 : zPk 255 9 = true := by decide +kernel
set_option maxRecDepth 100000 in
theorem zk_255_10 : zPk 255 10 = true := by decide +kernel
set_option maxRecDepth 100000 in
theorem zk_255_11 : zPk 255 11 = true := by decide +kernel
set_option maxRecDepth 100000 in
theorem zk_255_12 : zPk 255 12 = true := by decide +kernel
set_option maxRecDepth 100000 in
theorem zk_255_13 : zPk 255 13 = true := by decide +kernel
set_option maxRecDepth 100000 in
theorem zk_255_14 : zPk 255 14 = true := by decide +kernel
set_option maxRecDepth 100000 in
theorem zk_255_15 : zPk 255 15 = true := by decide +kernel
set_option maxRecDepth 100000 in
theorem zk_255_16 : zPk 255 16 = true := by decide +kernel
set_option maxRecDepth 100000 in
theorem zk_255_17 : zPk 255 17 = true := by decide +kernel
set_option maxRecDepth 100000 in
theorem zk_255_18 : zPk 255 18 = true := by decide +kernel
set_option maxRecDepth 100000 in
theorem zk_255_19 : zPk 255 19 = true := by decide +kernel
