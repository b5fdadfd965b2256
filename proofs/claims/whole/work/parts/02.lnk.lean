/-! printed by wip/gen/chk.py: the links of the claim among the words of its tables, by their places -/
def zTf (ci : Nat) : u_T := ([zT0, zT1, zT2, zT3, zT4, zT5, zT6, zT7, zT8, zT9, zT10, zT11, zT12] : List u_T).getD ci zT0
def zpF (e : Nat × Nat × Nat × Nat) : Prop := Cond.fieldLink (zRn e.1) e.2.1 (zTf e.2.2.1 e.2.2.2).1 (zTf e.2.2.1 e.2.2.2).2.1 (zTf e.2.2.1 e.2.2.2).2.2.1 ∈ lw_tbl
def zLF_0 : List (Nat × Nat × Nat × Nat) := [(4, 7, 4, 0), (4, 13, 4, 1), (4, 16, 4, 2), (4, 20, 4, 3), (7, 7, 7, 0), (10, 88, 7, 0), (7, 13, 7, 1), (10, 91, 7, 1), (7, 16, 7, 2), (10, 94, 7, 2), (0, 9, 0, 0), (7, 27, 0, 0), (11, 135, 0, 0), (5, 137, 0, 0), (10, 225, 0, 0), (0, 15, 0, 1)]
set_option maxRecDepth 100000 in
theorem zLF_0_ok : ∀ e ∈ zLF_0, zpF e := List.forall_mem_cons.mpr ⟨List.mem_of_getElem? (i := 151) rfl, List.forall_mem_cons.mpr ⟨List.mem_of_getElem? (i := 152) rfl, List.forall_mem_cons.mpr ⟨List.mem_of_getElem? (i := 153) rfl, List.forall_mem_cons.mpr ⟨List.mem_of_getElem? (i := 154) rfl, List.forall_mem_cons.mpr ⟨List.mem_of_getElem? (i := 170) rfl, List.forall_mem_cons.mpr ⟨List.mem_of_getElem? (i := 171) rfl, List.forall_mem_cons.mpr ⟨List.mem_of_getElem? (i := 172) rfl, List.forall_mem_cons.mpr ⟨List.mem_of_getElem? (i := 173) rfl, List.forall_mem_cons.mpr ⟨List.mem_of_getElem? (i := 174) rfl, List.forall_mem_cons.mpr ⟨List.mem_of_getElem? (i := 175) rfl, List.forall_mem_cons.mpr ⟨List.mem_of_getElem? (i := 194) rfl, List.forall_mem_cons.mpr ⟨List.mem_of_getElem? (i := 195) rfl, List.forall_mem_cons.mpr ⟨List.mem_of_getElem? (i := 196) rfl, List.forall_mem_cons.mpr ⟨List.mem_of_getElem? (i := 197) rfl, List.forall_mem_cons.mpr ⟨List.mem_of_getElem? (i := 198) rfl, List.forall_mem_cons.mpr ⟨List.mem_of_getElem? (i := 199) rfl, fun _ h => absurd h List.not_mem_nil⟩⟩⟩⟩⟩⟩⟩⟩⟩⟩⟩⟩⟩⟩⟩⟩
def zLF_1 : List (Nat × Nat × Nat × Nat) := [(7, 28, 0, 1), (11, 138, 0, 1), (5, 142, 0, 1), (10, 226, 0, 1), (0, 18, 0, 2), (11, 110, 0, 2), (5, 145, 0, 2), (10, 227, 0, 2), (0, 21, 0, 3), (11, 113, 0, 3), (5, 148, 0, 3), (10, 230, 0, 3), (3, 12, 3, 0), (11, 100, 3, 0), (10, 131, 3, 0), (5, 127, 3, 0)]
set_option maxRecDepth 100000 in
theorem zLF_1_ok : ∀ e ∈ zLF_1, zpF e := List.forall_mem_cons.mpr ⟨List.mem_of_getElem? (i := 200) rfl, List.forall_mem_cons.mpr ⟨List.mem_of_getElem? (i := 201) rfl, List.forall_mem_cons.mpr ⟨List.mem_of_getElem? (i := 202) rfl, List.forall_mem_cons.mpr ⟨List.mem_of_getElem? (i := 203) rfl, List.forall_mem_cons.mpr ⟨List.mem_of_getElem? (i := 204) rfl, List.forall_mem_cons.mpr ⟨List.mem_of_getElem? (i := 205) rfl, List.forall_mem_cons.mpr ⟨List.mem_of_getElem? (i := 206) rfl, List.forall_mem_cons.mpr ⟨List.mem_of_getElem? (i := 207) rfl, List.forall_mem_cons.mpr ⟨List.mem_of_getElem? (i := 208) rfl, List.forall_mem_cons.mpr ⟨List.mem_of_getElem? (i := 209) rfl, List.forall_mem_cons.mpr ⟨List.mem_of_getElem? (i := 210) rfl, List.forall_mem_cons.mpr ⟨List.mem_of_getElem? (i := 211) rfl, List.forall_mem_cons.mpr ⟨List.mem_of_getElem? (i := 221) rfl, List.forall_mem_cons.mpr ⟨List.mem_of_getElem? (i := 222) rfl, List.forall_mem_cons.mpr ⟨List.mem_of_getElem? (i := 223) rfl, List.forall_mem_cons.mpr ⟨List.mem_of_getElem? (i := 224) rfl, fun _ h => absurd h List.not_mem_nil⟩⟩⟩⟩⟩⟩⟩⟩⟩⟩⟩⟩⟩⟩⟩⟩
def zLF_2 : List (Nat × Nat × Nat × Nat) := [(3, 18, 3, 1), (11, 119, 3, 1), (5, 226, 3, 1), (3, 22, 3, 2), (6, 120, 3, 2), (10, 138, 3, 2), (11, 132, 3, 2), (5, 166, 3, 2), (3, 26, 3, 3), (11, 141, 3, 3), (3, 29, 3, 4), (11, 144, 3, 4), (5, 216, 3, 4), (3, 32, 3, 5), (6, 101, 3, 5), (11, 116, 3, 5)]
set_option maxRecDepth 100000 in
theorem zLF_2_ok : ∀ e ∈ zLF_2, zpF e := List.forall_mem_cons.mpr ⟨List.mem_of_getElem? (i := 225) rfl, List.forall_mem_cons.mpr ⟨List.mem_of_getElem? (i := 226) rfl, List.forall_mem_cons.mpr ⟨List.mem_of_getElem? (i := 227) rfl, List.forall_mem_cons.mpr ⟨List.mem_of_getElem? (i := 228) rfl, List.forall_mem_cons.mpr ⟨List.mem_of_getElem? (i := 229) rfl, List.forall_mem_cons.mpr ⟨List.mem_of_getElem? (i := 230) rfl, List.forall_mem_cons.mpr ⟨List.mem_of_getElem? (i := 231) rfl, List.forall_mem_cons.mpr ⟨List.mem_of_getElem? (i := 232) rfl, List.forall_mem_cons.mpr ⟨List.mem_of_getElem? (i := 233) rfl, List.forall_mem_cons.mpr ⟨List.mem_of_getElem? (i := 234) rfl, List.forall_mem_cons.mpr ⟨List.mem_of_getElem? (i := 235) rfl, List.forall_mem_cons.mpr ⟨List.mem_of_getElem? (i := 236) rfl, List.forall_mem_cons.mpr ⟨List.mem_of_getElem? (i := 237) rfl, List.forall_mem_cons.mpr ⟨List.mem_of_getElem? (i := 238) rfl, List.forall_mem_cons.mpr ⟨List.mem_of_getElem? (i := 239) rfl, List.forall_mem_cons.mpr ⟨List.mem_of_getElem? (i := 240) rfl, fun _ h => absurd h List.not_mem_nil⟩⟩⟩⟩⟩⟩⟩⟩⟩⟩⟩⟩⟩⟩⟩⟩
def zLF_3 : List (Nat × Nat × Nat × Nat) := [(3, 36, 3, 6), (11, 147, 3, 6), (10, 188, 3, 6), (3, 39, 3, 7), (11, 150, 3, 7), (3, 42, 3, 8), (11, 153, 3, 8), (3, 45, 3, 9), (11, 160, 3, 9), (3, 49, 3, 10), (11, 166, 3, 10), (8, 12, 8, 0), (10, 135, 8, 0), (11, 179, 8, 0), (5, 159, 8, 0), (8, 18, 8, 1)]
set_option maxRecDepth 100000 in
theorem zLF_3_ok : ∀ e ∈ zLF_3, zpF e := List.forall_mem_cons.mpr ⟨List.mem_of_getElem? (i := 241) rfl, List.forall_mem_cons.mpr ⟨List.mem_of_getElem? (i := 242) rfl, List.forall_mem_cons.mpr ⟨List.mem_of_getElem? (i := 243) rfl, List.forall_mem_cons.mpr ⟨List.mem_of_getElem? (i := 244) rfl, List.forall_mem_cons.mpr ⟨List.mem_of_getElem? (i := 245) rfl, List.forall_mem_cons.mpr ⟨List.mem_of_getElem? (i := 246) rfl, List.forall_mem_cons.mpr ⟨List.mem_of_getElem? (i := 247) rfl, List.forall_mem_cons.mpr ⟨List.mem_of_getElem? (i := 248) rfl, List.forall_mem_cons.mpr ⟨List.mem_of_getElem? (i := 249) rfl, List.forall_mem_cons.mpr ⟨List.mem_of_getElem? (i := 250) rfl, List.forall_mem_cons.mpr ⟨List.mem_of_getElem? (i := 251) rfl, List.forall_mem_cons.mpr ⟨List.mem_of_getElem? (i := 282) rfl, List.forall_mem_cons.mpr ⟨List.mem_of_getElem? (i := 283) rfl, List.forall_mem_cons.mpr ⟨List.mem_of_getElem? (i := 284) rfl, List.forall_mem_cons.mpr ⟨List.mem_of_getElem? (i := 285) rfl, List.forall_mem_cons.mpr ⟨List.mem_of_getElem? (i := 286) rfl, fun _ h => absurd h List.not_mem_nil⟩⟩⟩⟩⟩⟩⟩⟩⟩⟩⟩⟩⟩⟩⟩⟩
def zLF_4 : List (Nat × Nat × Nat × Nat) := [(5, 104, 8, 1), (11, 207, 8, 1), (8, 22, 8, 2), (10, 185, 8, 2), (11, 286, 8, 2), (8, 25, 8, 3), (11, 185, 8, 3), (5, 205, 8, 3), (8, 29, 8, 4), (5, 101, 8, 4), (11, 204, 8, 4), (10, 233, 8, 4), (8, 32, 8, 5), (5, 114, 8, 5), (11, 210, 8, 5), (8, 36, 8, 6)]
set_option maxRecDepth 100000 in
theorem zLF_4_ok : ∀ e ∈ zLF_4, zpF e := List.forall_mem_cons.mpr ⟨List.mem_of_getElem? (i := 287) rfl, List.forall_mem_cons.mpr ⟨List.mem_of_getElem? (i := 288) rfl, List.forall_mem_cons.mpr ⟨List.mem_of_getElem? (i := 289) rfl, List.forall_mem_cons.mpr ⟨List.mem_of_getElem? (i := 290) rfl, List.forall_mem_cons.mpr ⟨List.mem_of_getElem? (i := 291) rfl, List.forall_mem_cons.mpr ⟨List.mem_of_getElem? (i := 292) rfl, List.forall_mem_cons.mpr ⟨List.mem_of_getElem? (i := 293) rfl, List.forall_mem_cons.mpr ⟨List.mem_of_getElem? (i := 294) rfl, List.forall_mem_cons.mpr ⟨List.mem_of_getElem? (i := 295) rfl, List.forall_mem_cons.mpr ⟨List.mem_of_getElem? (i := 296) rfl, List.forall_mem_cons.mpr ⟨List.mem_of_getElem? (i := 297) rfl, List.forall_mem_cons.mpr ⟨List.mem_of_getElem? (i := 298) rfl, List.forall_mem_cons.mpr ⟨List.mem_of_getElem? (i := 299) rfl, List.forall_mem_cons.mpr ⟨List.mem_of_getElem? (i := 300) rfl, List.forall_mem_cons.mpr ⟨List.mem_of_getElem? (i := 301) rfl, List.forall_mem_cons.mpr ⟨List.mem_of_getElem? (i := 302) rfl, fun _ h => absurd h List.not_mem_nil⟩⟩⟩⟩⟩⟩⟩⟩⟩⟩⟩⟩⟩⟩⟩⟩
def zLF_5 : List (Nat × Nat × Nat × Nat) := [(10, 124, 8, 6), (5, 157, 8, 6), (11, 193, 8, 6), (8, 39, 8, 7), (5, 40, 8, 7), (10, 145, 8, 7), (11, 213, 8, 7), (8, 42, 8, 8), (5, 53, 8, 8), (10, 182, 8, 8), (8, 45, 8, 9), (5, 74, 8, 9), (11, 216, 8, 9), (8, 48, 8, 10), (11, 219, 8, 10), (8, 51, 8, 11)]
set_option maxRecDepth 100000 in
theorem zLF_5_ok : ∀ e ∈ zLF_5, zpF e := List.forall_mem_cons.mpr ⟨List.mem_of_getElem? (i := 303) rfl, List.forall_mem_cons.mpr ⟨List.mem_of_getElem? (i := 304) rfl, List.forall_mem_cons.mpr ⟨List.mem_of_getElem? (i := 305) rfl, List.forall_mem_cons.mpr ⟨List.mem_of_getElem? (i := 306) rfl, List.forall_mem_cons.mpr ⟨List.mem_of_getElem? (i := 307) rfl, List.forall_mem_cons.mpr ⟨List.mem_of_getElem? (i := 308) rfl, List.forall_mem_cons.mpr ⟨List.mem_of_getElem? (i := 309) rfl, List.forall_mem_cons.mpr ⟨List.mem_of_getElem? (i := 310) rfl, List.forall_mem_cons.mpr ⟨List.mem_of_getElem? (i := 311) rfl, List.forall_mem_cons.mpr ⟨List.mem_of_getElem? (i := 312) rfl, List.forall_mem_cons.mpr ⟨List.mem_of_getElem? (i := 313) rfl, List.forall_mem_cons.mpr ⟨List.mem_of_getElem? (i := 314) rfl, List.forall_mem_cons.mpr ⟨List.mem_of_getElem? (i := 315) rfl, List.forall_mem_cons.mpr ⟨List.mem_of_getElem? (i := 316) rfl, List.forall_mem_cons.mpr ⟨List.mem_of_getElem? (i := 317) rfl, List.forall_mem_cons.mpr ⟨List.mem_of_getElem? (i := 318) rfl, fun _ h => absurd h List.not_mem_nil⟩⟩⟩⟩⟩⟩⟩⟩⟩⟩⟩⟩⟩⟩⟩⟩
def zLF_6 : List (Nat × Nat × Nat × Nat) := [(5, 209, 8, 11), (11, 222, 8, 11), (8, 54, 8, 12), (11, 196, 8, 12), (10, 219, 8, 12), (1, 9, 1, 0), (5, 243, 1, 0), (1, 15, 1, 1), (1, 18, 1, 2), (5, 239, 1, 2), (1, 21, 1, 3), (1, 24, 1, 4), (11, 332, 1, 4), (1, 27, 1, 5), (11, 323, 1, 5), (1, 31, 1, 6)]
set_option maxRecDepth 100000 in
theorem zLF_6_ok : ∀ e ∈ zLF_6, zpF e := List.forall_mem_cons.mpr ⟨List.mem_of_getElem? (i := 319) rfl, List.forall_mem_cons.mpr ⟨List.mem_of_getElem? (i := 320) rfl, List.forall_mem_cons.mpr ⟨List.mem_of_getElem? (i := 321) rfl, List.forall_mem_cons.mpr ⟨List.mem_of_getElem? (i := 322) rfl, List.forall_mem_cons.mpr ⟨List.mem_of_getElem? (i := 323) rfl, List.forall_mem_cons.mpr ⟨List.mem_of_getElem? (i := 356) rfl, List.forall_mem_cons.mpr ⟨List.mem_of_getElem? (i := 357) rfl, List.forall_mem_cons.mpr ⟨List.mem_of_getElem? (i := 358) rfl, List.forall_mem_cons.mpr ⟨List.mem_of_getElem? (i := 359) rfl, List.forall_mem_cons.mpr ⟨List.mem_of_getElem? (i := 360) rfl, List.forall_mem_cons.mpr ⟨List.mem_of_getElem? (i := 361) rfl, List.forall_mem_cons.mpr ⟨List.mem_of_getElem? (i := 362) rfl, List.forall_mem_cons.mpr ⟨List.mem_of_getElem? (i := 363) rfl, List.forall_mem_cons.mpr ⟨List.mem_of_getElem? (i := 364) rfl, List.forall_mem_cons.mpr ⟨List.mem_of_getElem? (i := 365) rfl, List.forall_mem_cons.mpr ⟨List.mem_of_getElem? (i := 366) rfl, fun _ h => absurd h List.not_mem_nil⟩⟩⟩⟩⟩⟩⟩⟩⟩⟩⟩⟩⟩⟩⟩⟩
def zLF_7 : List (Nat × Nat × Nat × Nat) := [(11, 326, 1, 6), (9, 7, 9, 0), (6, 67, 9, 0), (11, 342, 9, 0), (9, 13, 9, 1), (6, 94, 9, 1), (11, 347, 9, 1), (9, 16, 9, 2), (6, 72, 9, 2), (11, 350, 9, 2), (9, 19, 9, 3), (6, 84, 9, 3), (11, 353, 9, 3), (9, 22, 9, 4), (6, 91, 9, 4), (11, 356, 9, 4)]
set_option maxRecDepth 100000 in
theorem zLF_7_ok : ∀ e ∈ zLF_7, zpF e := List.forall_mem_cons.mpr ⟨List.mem_of_getElem? (i := 367) rfl, List.forall_mem_cons.mpr ⟨List.mem_of_getElem? (i := 388) rfl, List.forall_mem_cons.mpr ⟨List.mem_of_getElem? (i := 389) rfl, List.forall_mem_cons.mpr ⟨List.mem_of_getElem? (i := 390) rfl, List.forall_mem_cons.mpr ⟨List.mem_of_getElem? (i := 391) rfl, List.forall_mem_cons.mpr ⟨List.mem_of_getElem? (i := 392) rfl, List.forall_mem_cons.mpr ⟨List.mem_of_getElem? (i := 393) rfl, List.forall_mem_cons.mpr ⟨List.mem_of_getElem? (i := 394) rfl, List.forall_mem_cons.mpr ⟨List.mem_of_getElem? (i := 395) rfl, List.forall_mem_cons.mpr ⟨List.mem_of_getElem? (i := 396) rfl, List.forall_mem_cons.mpr ⟨List.mem_of_getElem? (i := 397) rfl, List.forall_mem_cons.mpr ⟨List.mem_of_getElem? (i := 398) rfl, List.forall_mem_cons.mpr ⟨List.mem_of_getElem? (i := 399) rfl, List.forall_mem_cons.mpr ⟨List.mem_of_getElem? (i := 400) rfl, List.forall_mem_cons.mpr ⟨List.mem_of_getElem? (i := 401) rfl, List.forall_mem_cons.mpr ⟨List.mem_of_getElem? (i := 402) rfl, fun _ h => absurd h List.not_mem_nil⟩⟩⟩⟩⟩⟩⟩⟩⟩⟩⟩⟩⟩⟩⟩⟩
def zLF_8 : List (Nat × Nat × Nat × Nat) := [(9, 25, 9, 5), (6, 81, 9, 5), (11, 357, 9, 5), (10, 11, 10, 0), (11, 79, 10, 0), (10, 19, 10, 1), (11, 93, 10, 1), (6, 97, 10, 1), (5, 123, 10, 1), (10, 25, 10, 2), (5, 29, 10, 2), (11, 172, 10, 2), (10, 31, 10, 3), (5, 235, 10, 3), (11, 314, 10, 3), (10, 37, 10, 4)]
set_option maxRecDepth 100000 in
theorem zLF_8_ok : ∀ e ∈ zLF_8, zpF e := List.forall_mem_cons.mpr ⟨List.mem_of_getElem? (i := 403) rfl, List.forall_mem_cons.mpr ⟨List.mem_of_getElem? (i := 404) rfl, List.forall_mem_cons.mpr ⟨List.mem_of_getElem? (i := 405) rfl, List.forall_mem_cons.mpr ⟨List.mem_of_getElem? (i := 419) rfl, List.forall_mem_cons.mpr ⟨List.mem_of_getElem? (i := 420) rfl, List.forall_mem_cons.mpr ⟨List.mem_of_getElem? (i := 421) rfl, List.forall_mem_cons.mpr ⟨List.mem_of_getElem? (i := 422) rfl, List.forall_mem_cons.mpr ⟨List.mem_of_getElem? (i := 423) rfl, List.forall_mem_cons.mpr ⟨List.mem_of_getElem? (i := 424) rfl, List.forall_mem_cons.mpr ⟨List.mem_of_getElem? (i := 425) rfl, List.forall_mem_cons.mpr ⟨List.mem_of_getElem? (i := 426) rfl, List.forall_mem_cons.mpr ⟨List.mem_of_getElem? (i := 427) rfl, List.forall_mem_cons.mpr ⟨List.mem_of_getElem? (i := 428) rfl, List.forall_mem_cons.mpr ⟨List.mem_of_getElem? (i := 429) rfl, List.forall_mem_cons.mpr ⟨List.mem_of_getElem? (i := 430) rfl, List.forall_mem_cons.mpr ⟨List.mem_of_getElem? (i := 431) rfl, fun _ h => absurd h List.not_mem_nil⟩⟩⟩⟩⟩⟩⟩⟩⟩⟩⟩⟩⟩⟩⟩⟩
def zLF_9 : List (Nat × Nat × Nat × Nat) := [(6, 63, 10, 4), (11, 338, 10, 4), (10, 72, 10, 5), (11, 74, 10, 5), (10, 76, 10, 6), (11, 90, 10, 6), (10, 79, 10, 7), (11, 169, 10, 7), (10, 82, 10, 8), (5, 232, 10, 8), (11, 311, 10, 8), (10, 85, 10, 9), (6, 58, 10, 9), (11, 335, 10, 9), (10, 43, 10, 10), (5, 49, 10, 10)]
set_option maxRecDepth 100000 in
theorem zLF_9_ok : ∀ e ∈ zLF_9, zpF e := List.forall_mem_cons.mpr ⟨List.mem_of_getElem? (i := 432) rfl, List.forall_mem_cons.mpr ⟨List.mem_of_getElem? (i := 433) rfl, List.forall_mem_cons.mpr ⟨List.mem_of_getElem? (i := 434) rfl, List.forall_mem_cons.mpr ⟨List.mem_of_getElem? (i := 435) rfl, List.forall_mem_cons.mpr ⟨List.mem_of_getElem? (i := 436) rfl, List.forall_mem_cons.mpr ⟨List.mem_of_getElem? (i := 437) rfl, List.forall_mem_cons.mpr ⟨List.mem_of_getElem? (i := 438) rfl, List.forall_mem_cons.mpr ⟨List.mem_of_getElem? (i := 439) rfl, List.forall_mem_cons.mpr ⟨List.mem_of_getElem? (i := 440) rfl, List.forall_mem_cons.mpr ⟨List.mem_of_getElem? (i := 441) rfl, List.forall_mem_cons.mpr ⟨List.mem_of_getElem? (i := 442) rfl, List.forall_mem_cons.mpr ⟨List.mem_of_getElem? (i := 443) rfl, List.forall_mem_cons.mpr ⟨List.mem_of_getElem? (i := 444) rfl, List.forall_mem_cons.mpr ⟨List.mem_of_getElem? (i := 445) rfl, List.forall_mem_cons.mpr ⟨List.mem_of_getElem? (i := 446) rfl, List.forall_mem_cons.mpr ⟨List.mem_of_getElem? (i := 447) rfl, fun _ h => absurd h List.not_mem_nil⟩⟩⟩⟩⟩⟩⟩⟩⟩⟩⟩⟩⟩⟩⟩⟩
def zLF_10 : List (Nat × Nat × Nat × Nat) := [(11, 235, 10, 10), (10, 50, 10, 11), (11, 249, 10, 11), (10, 54, 10, 12), (11, 403, 10, 12), (10, 57, 10, 13), (11, 406, 10, 13), (10, 60, 10, 14), (11, 365, 10, 14), (10, 117, 10, 15), (11, 374, 10, 15), (10, 63, 10, 16), (6, 123, 10, 16), (11, 279, 10, 16), (10, 121, 10, 17), (5, 107, 10, 17)]
set_option maxRecDepth 100000 in
theorem zLF_10_ok : ∀ e ∈ zLF_10, zpF e := List.forall_mem_cons.mpr ⟨List.mem_of_getElem? (i := 448) rfl, List.forall_mem_cons.mpr ⟨List.mem_of_getElem? (i := 449) rfl, List.forall_mem_cons.mpr ⟨List.mem_of_getElem? (i := 450) rfl, List.forall_mem_cons.mpr ⟨List.mem_of_getElem? (i := 451) rfl, List.forall_mem_cons.mpr ⟨List.mem_of_getElem? (i := 452) rfl, List.forall_mem_cons.mpr ⟨List.mem_of_getElem? (i := 453) rfl, List.forall_mem_cons.mpr ⟨List.mem_of_getElem? (i := 454) rfl, List.forall_mem_cons.mpr ⟨List.mem_of_getElem? (i := 455) rfl, List.forall_mem_cons.mpr ⟨List.mem_of_getElem? (i := 456) rfl, List.forall_mem_cons.mpr ⟨List.mem_of_getElem? (i := 457) rfl, List.forall_mem_cons.mpr ⟨List.mem_of_getElem? (i := 458) rfl, List.forall_mem_cons.mpr ⟨List.mem_of_getElem? (i := 459) rfl, List.forall_mem_cons.mpr ⟨List.mem_of_getElem? (i := 460) rfl, List.forall_mem_cons.mpr ⟨List.mem_of_getElem? (i := 461) rfl, List.forall_mem_cons.mpr ⟨List.mem_of_getElem? (i := 462) rfl, List.forall_mem_cons.mpr ⟨List.mem_of_getElem? (i := 463) rfl, fun _ h => absurd h List.not_mem_nil⟩⟩⟩⟩⟩⟩⟩⟩⟩⟩⟩⟩⟩⟩⟩⟩
def zLF_11 : List (Nat × Nat × Nat × Nat) := [(11, 263, 10, 17), (2, 9, 2, 0), (2, 21, 2, 1), (2, 25, 2, 2), (2, 37, 2, 3), (2, 59, 2, 4), (2, 34, 2, 5), (2, 40, 2, 6), (2, 43, 2, 7), (2, 46, 2, 8), (2, 49, 2, 9), (5, 9, 5, 0), (5, 87, 5, 1), (5, 21, 5, 2), (5, 33, 5, 3), (5, 25, 5, 4)]
set_option maxRecDepth 100000 in
theorem zLF_11_ok : ∀ e ∈ zLF_11, zpF e := List.forall_mem_cons.mpr ⟨List.mem_of_getElem? (i := 464) rfl, List.forall_mem_cons.mpr ⟨List.mem_of_getElem? (i := 510) rfl, List.forall_mem_cons.mpr ⟨List.mem_of_getElem? (i := 511) rfl, List.forall_mem_cons.mpr ⟨List.mem_of_getElem? (i := 512) rfl, List.forall_mem_cons.mpr ⟨List.mem_of_getElem? (i := 513) rfl, List.forall_mem_cons.mpr ⟨List.mem_of_getElem? (i := 514) rfl, List.forall_mem_cons.mpr ⟨List.mem_of_getElem? (i := 515) rfl, List.forall_mem_cons.mpr ⟨List.mem_of_getElem? (i := 516) rfl, List.forall_mem_cons.mpr ⟨List.mem_of_getElem? (i := 517) rfl, List.forall_mem_cons.mpr ⟨List.mem_of_getElem? (i := 518) rfl, List.forall_mem_cons.mpr ⟨List.mem_of_getElem? (i := 519) rfl, List.forall_mem_cons.mpr ⟨List.mem_of_getElem? (i := 548) rfl, List.forall_mem_cons.mpr ⟨List.mem_of_getElem? (i := 549) rfl, List.forall_mem_cons.mpr ⟨List.mem_of_getElem? (i := 550) rfl, List.forall_mem_cons.mpr ⟨List.mem_of_getElem? (i := 551) rfl, List.forall_mem_cons.mpr ⟨List.mem_of_getElem? (i := 552) rfl, fun _ h => absurd h List.not_mem_nil⟩⟩⟩⟩⟩⟩⟩⟩⟩⟩⟩⟩⟩⟩⟩⟩
def zLF_12 : List (Nat × Nat × Nat × Nat) := [(6, 14, 6, 0), (6, 20, 6, 1), (11, 368, 6, 1), (6, 44, 6, 2), (11, 377, 6, 2), (6, 47, 6, 3), (6, 23, 6, 4), (6, 27, 6, 5), (6, 31, 6, 6), (6, 34, 6, 7), (6, 38, 6, 8), (11, 10, 11, 0), (11, 16, 11, 1), (11, 389, 11, 2), (11, 19, 11, 3), (11, 225, 11, 4)]
set_option maxRecDepth 100000 in
theorem zLF_12_ok : ∀ e ∈ zLF_12, zpF e := List.forall_mem_cons.mpr ⟨List.mem_of_getElem? (i := 572) rfl, List.forall_mem_cons.mpr ⟨List.mem_of_getElem? (i := 573) rfl, List.forall_mem_cons.mpr ⟨List.mem_of_getElem? (i := 574) rfl, List.forall_mem_cons.mpr ⟨List.mem_of_getElem? (i := 575) rfl, List.forall_mem_cons.mpr ⟨List.mem_of_getElem? (i := 576) rfl, List.forall_mem_cons.mpr ⟨List.mem_of_getElem? (i := 577) rfl, List.forall_mem_cons.mpr ⟨List.mem_of_getElem? (i := 578) rfl, List.forall_mem_cons.mpr ⟨List.mem_of_getElem? (i := 579) rfl, List.forall_mem_cons.mpr ⟨List.mem_of_getElem? (i := 580) rfl, List.forall_mem_cons.mpr ⟨List.mem_of_getElem? (i := 581) rfl, List.forall_mem_cons.mpr ⟨List.mem_of_getElem? (i := 582) rfl, List.forall_mem_cons.mpr ⟨List.mem_of_getElem? (i := 604) rfl, List.forall_mem_cons.mpr ⟨List.mem_of_getElem? (i := 605) rfl, List.forall_mem_cons.mpr ⟨List.mem_of_getElem? (i := 606) rfl, List.forall_mem_cons.mpr ⟨List.mem_of_getElem? (i := 607) rfl, List.forall_mem_cons.mpr ⟨List.mem_of_getElem? (i := 608) rfl, fun _ h => absurd h List.not_mem_nil⟩⟩⟩⟩⟩⟩⟩⟩⟩⟩⟩⟩⟩⟩⟩⟩
def zLF_13 : List (Nat × Nat × Nat × Nat) := [(11, 23, 11, 5), (11, 383, 11, 6), (11, 28, 11, 7), (11, 31, 11, 8), (11, 37, 11, 9), (11, 44, 11, 10), (11, 51, 11, 11), (11, 58, 11, 12), (11, 62, 11, 13), (12, 7, 12, 0), (12, 13, 12, 1), (12, 366, 12, 2), (12, 16, 12, 3), (12, 123, 12, 4), (12, 131, 12, 5), (12, 137, 12, 6)]
set_option maxRecDepth 100000 in
theorem zLF_13_ok : ∀ e ∈ zLF_13, zpF e := List.forall_mem_cons.mpr ⟨List.mem_of_getElem? (i := 609) rfl, List.forall_mem_cons.mpr ⟨List.mem_of_getElem? (i := 610) rfl, List.forall_mem_cons.mpr ⟨List.mem_of_getElem? (i := 611) rfl, List.forall_mem_cons.mpr ⟨List.mem_of_getElem? (i := 612) rfl, List.forall_mem_cons.mpr ⟨List.mem_of_getElem? (i := 613) rfl, List.forall_mem_cons.mpr ⟨List.mem_of_getElem? (i := 614) rfl, List.forall_mem_cons.mpr ⟨List.mem_of_getElem? (i := 615) rfl, List.forall_mem_cons.mpr ⟨List.mem_of_getElem? (i := 616) rfl, List.forall_mem_cons.mpr ⟨List.mem_of_getElem? (i := 617) rfl, List.forall_mem_cons.mpr ⟨List.mem_of_getElem? (i := 1397) rfl, List.forall_mem_cons.mpr ⟨List.mem_of_getElem? (i := 1398) rfl, List.forall_mem_cons.mpr ⟨List.mem_of_getElem? (i := 1399) rfl, List.forall_mem_cons.mpr ⟨List.mem_of_getElem? (i := 1400) rfl, List.forall_mem_cons.mpr ⟨List.mem_of_getElem? (i := 1401) rfl, List.forall_mem_cons.mpr ⟨List.mem_of_getElem? (i := 1402) rfl, List.forall_mem_cons.mpr ⟨List.mem_of_getElem? (i := 1403) rfl, fun _ h => absurd h List.not_mem_nil⟩⟩⟩⟩⟩⟩⟩⟩⟩⟩⟩⟩⟩⟩⟩⟩
def zLF_14 : List (Nat × Nat × Nat × Nat) := [(12, 140, 12, 7), (12, 143, 12, 8), (12, 134, 12, 9), (12, 127, 12, 10), (12, 19, 12, 11), (12, 22, 12, 12), (12, 201, 12, 13), (12, 161, 12, 14), (12, 225, 12, 15), (12, 25, 12, 16), (12, 28, 12, 17), (12, 204, 12, 18), (12, 207, 12, 19), (12, 31, 12, 20), (12, 164, 12, 21), (12, 177, 12, 22)]
set_option maxRecDepth 100000 in
theorem zLF_14_ok : ∀ e ∈ zLF_14, zpF e := List.forall_mem_cons.mpr ⟨List.mem_of_getElem? (i := 1404) rfl, List.forall_mem_cons.mpr ⟨List.mem_of_getElem? (i := 1405) rfl, List.forall_mem_cons.mpr ⟨List.mem_of_getElem? (i := 1406) rfl, List.forall_mem_cons.mpr ⟨List.mem_of_getElem? (i := 1407) rfl, List.forall_mem_cons.mpr ⟨List.mem_of_getElem? (i := 1408) rfl, List.forall_mem_cons.mpr ⟨List.mem_of_getElem? (i := 1409) rfl, List.forall_mem_cons.mpr ⟨List.mem_of_getElem? (i := 1410) rfl, List.forall_mem_cons.mpr ⟨List.mem_of_getElem? (i := 1411) rfl, List.forall_mem_cons.mpr ⟨List.mem_of_getElem? (i := 1412) rfl, List.forall_mem_cons.mpr ⟨List.mem_of_getElem? (i := 1413) rfl, List.forall_mem_cons.mpr ⟨List.mem_of_getElem? (i := 1414) rfl, List.forall_mem_cons.mpr ⟨List.mem_of_getElem? (i := 1415) rfl, List.forall_mem_cons.mpr ⟨List.mem_of_getElem? (i := 1416) rfl, List.forall_mem_cons.mpr ⟨List.mem_of_getElem? (i := 1417) rfl, List.forall_mem_cons.mpr ⟨List.mem_of_getElem? (i := 1418) rfl, List.forall_mem_cons.mpr ⟨List.mem_of_getElem? (i := 1419) rfl, fun _ h => absurd h List.not_mem_nil⟩⟩⟩⟩⟩⟩⟩⟩⟩⟩⟩⟩⟩⟩⟩⟩
def zLF_15 : List (Nat × Nat × Nat × Nat) := [(12, 171, 12, 23), (12, 34, 12, 24), (12, 37, 12, 25), (12, 40, 12, 26), (12, 43, 12, 27), (12, 46, 12, 28), (12, 49, 12, 29), (12, 52, 12, 30), (12, 55, 12, 31), (12, 58, 12, 32), (12, 347, 12, 33), (12, 350, 12, 34), (12, 353, 12, 35), (12, 61, 12, 36), (12, 363, 12, 37), (12, 64, 12, 38)]
set_option maxRecDepth 100000 in
theorem zLF_15_ok : ∀ e ∈ zLF_15, zpF e := List.forall_mem_cons.mpr ⟨List.mem_of_getElem? (i := 1420) rfl, List.forall_mem_cons.mpr ⟨List.mem_of_getElem? (i := 1421) rfl, List.forall_mem_cons.mpr ⟨List.mem_of_getElem? (i := 1422) rfl, List.forall_mem_cons.mpr ⟨List.mem_of_getElem? (i := 1423) rfl, List.forall_mem_cons.mpr ⟨List.mem_of_getElem? (i := 1424) rfl, List.forall_mem_cons.mpr ⟨List.mem_of_getElem? (i := 1425) rfl, List.forall_mem_cons.mpr ⟨List.mem_of_getElem? (i := 1426) rfl, List.forall_mem_cons.mpr ⟨List.mem_of_getElem? (i := 1427) rfl, List.forall_mem_cons.mpr ⟨List.mem_of_getElem? (i := 1428) rfl, List.forall_mem_cons.mpr ⟨List.mem_of_getElem? (i := 1429) rfl, List.forall_mem_cons.mpr ⟨List.mem_of_getElem? (i := 1430) rfl, List.forall_mem_cons.mpr ⟨List.mem_of_getElem? (i := 1431) rfl, List.forall_mem_cons.mpr ⟨List.mem_of_getElem? (i := 1432) rfl, List.forall_mem_cons.mpr ⟨List.mem_of_getElem? (i := 1433) rfl, List.forall_mem_cons.mpr ⟨List.mem_of_getElem? (i := 1434) rfl, List.forall_mem_cons.mpr ⟨List.mem_of_getElem? (i := 1435) rfl, fun _ h => absurd h List.not_mem_nil⟩⟩⟩⟩⟩⟩⟩⟩⟩⟩⟩⟩⟩⟩⟩⟩
def zLF_16 : List (Nat × Nat × Nat × Nat) := [(12, 67, 12, 39), (12, 70, 12, 40)]
set_option maxRecDepth 100000 in
theorem zLF_16_ok : ∀ e ∈ zLF_16, zpF e := List.forall_mem_cons.mpr ⟨List.mem_of_getElem? (i := 1436) rfl, List.forall_mem_cons.mpr ⟨List.mem_of_getElem? (i := 1437) rfl, fun _ h => absurd h List.not_mem_nil⟩⟩
def zLF : List (Nat × Nat × Nat × Nat) := zLF_0 ++ (zLF_1 ++ (zLF_2 ++ (zLF_3 ++ (zLF_4 ++ (zLF_5 ++ (zLF_6 ++ (zLF_7 ++ (zLF_8 ++ (zLF_9 ++ (zLF_10 ++ (zLF_11 ++ (zLF_12 ++ (zLF_13 ++ (zLF_14 ++ (zLF_15 ++ (zLF_16))))))))))))))))
set_option maxRecDepth 100000 in
theorem zLF_ok : ∀ e ∈ zLF, zpF e := List.forall_mem_append.mpr ⟨zLF_0_ok, List.forall_mem_append.mpr ⟨zLF_1_ok, List.forall_mem_append.mpr ⟨zLF_2_ok, List.forall_mem_append.mpr ⟨zLF_3_ok, List.forall_mem_append.mpr ⟨zLF_4_ok, List.forall_mem_append.mpr ⟨zLF_5_ok, List.forall_mem_append.mpr ⟨zLF_6_ok, List.forall_mem_append.mpr ⟨zLF_7_ok, List.forall_mem_append.mpr ⟨zLF_8_ok, List.forall_mem_append.mpr ⟨zLF_9_ok, List.forall_mem_append.mpr ⟨zLF_10_ok, List.forall_mem_append.mpr ⟨zLF_11_ok, List.forall_mem_append.mpr ⟨zLF_12_ok, List.forall_mem_append.mpr ⟨zLF_13_ok, List.forall_mem_append.mpr ⟨zLF_14_ok, List.forall_mem_append.mpr ⟨zLF_15_ok, zLF_16_ok⟩⟩⟩⟩⟩⟩⟩⟩⟩⟩⟩⟩⟩⟩⟩⟩
def zpM (e : Nat × Nat × Nat) : Prop := Cond.methodLink (zRn e.1) e.2.1 (zM e.2.2).1 ∈ lw_tbl
def zLM_0 : List (Nat × Nat × Nat) := [(13, 9, 104), (11, 9, 84), (10, 47, 39), (6, 11, 39), (13, 13, 105), (11, 65, 106), (11, 69, 107), (11, 83, 74), (13, 18, 108), (11, 97, 36), (11, 103, 1), (13, 23, 109), (11, 106, 85), (13, 27, 110), (13, 31, 111), (11, 122, 112)]
set_option maxRecDepth 100000 in
theorem zLM_0_ok : ∀ e ∈ zLM_0, zpM e := List.forall_mem_cons.mpr ⟨List.mem_of_getElem? (i := 122) rfl, List.forall_mem_cons.mpr ⟨List.mem_of_getElem? (i := 130) rfl, List.forall_mem_cons.mpr ⟨List.mem_of_getElem? (i := 147) rfl, List.forall_mem_cons.mpr ⟨List.mem_of_getElem? (i := 571) rfl, List.forall_mem_cons.mpr ⟨List.mem_of_getElem? (i := 647) rfl, List.forall_mem_cons.mpr ⟨List.mem_of_getElem? (i := 651) rfl, List.forall_mem_cons.mpr ⟨List.mem_of_getElem? (i := 656) rfl, List.forall_mem_cons.mpr ⟨List.mem_of_getElem? (i := 661) rfl, List.forall_mem_cons.mpr ⟨List.mem_of_getElem? (i := 665) rfl, List.forall_mem_cons.mpr ⟨List.mem_of_getElem? (i := 670) rfl, List.forall_mem_cons.mpr ⟨List.mem_of_getElem? (i := 676) rfl, List.forall_mem_cons.mpr ⟨List.mem_of_getElem? (i := 680) rfl, List.forall_mem_cons.mpr ⟨List.mem_of_getElem? (i := 684) rfl, List.forall_mem_cons.mpr ⟨List.mem_of_getElem? (i := 688) rfl, List.forall_mem_cons.mpr ⟨List.mem_of_getElem? (i := 692) rfl, List.forall_mem_cons.mpr ⟨List.mem_of_getElem? (i := 696) rfl, fun _ h => absurd h List.not_mem_nil⟩⟩⟩⟩⟩⟩⟩⟩⟩⟩⟩⟩⟩⟩⟩⟩
def zLM_1 : List (Nat × Nat × Nat) := [(13, 36, 113), (13, 41, 114), (11, 156, 115), (13, 45, 116), (13, 49, 117), (13, 53, 118), (11, 176, 77), (13, 58, 119), (11, 182, 86), (13, 62, 120), (11, 186, 87), (10, 127, 85), (11, 190, 88), (13, 66, 121), (13, 70, 122), (11, 200, 89)]
set_option maxRecDepth 100000 in
theorem zLM_1_ok : ∀ e ∈ zLM_1, zpM e := List.forall_mem_cons.mpr ⟨List.mem_of_getElem? (i := 703) rfl, List.forall_mem_cons.mpr ⟨List.mem_of_getElem? (i := 707) rfl, List.forall_mem_cons.mpr ⟨List.mem_of_getElem? (i := 711) rfl, List.forall_mem_cons.mpr ⟨List.mem_of_getElem? (i := 714) rfl, List.forall_mem_cons.mpr ⟨List.mem_of_getElem? (i := 722) rfl, List.forall_mem_cons.mpr ⟨List.mem_of_getElem? (i := 726) rfl, List.forall_mem_cons.mpr ⟨List.mem_of_getElem? (i := 730) rfl, List.forall_mem_cons.mpr ⟨List.mem_of_getElem? (i := 735) rfl, List.forall_mem_cons.mpr ⟨List.mem_of_getElem? (i := 739) rfl, List.forall_mem_cons.mpr ⟨List.mem_of_getElem? (i := 743) rfl, List.forall_mem_cons.mpr ⟨List.mem_of_getElem? (i := 747) rfl, List.forall_mem_cons.mpr ⟨List.mem_of_getElem? (i := 751) rfl, List.forall_mem_cons.mpr ⟨List.mem_of_getElem? (i := 752) rfl, List.forall_mem_cons.mpr ⟨List.mem_of_getElem? (i := 756) rfl, List.forall_mem_cons.mpr ⟨List.mem_of_getElem? (i := 760) rfl, List.forall_mem_cons.mpr ⟨List.mem_of_getElem? (i := 764) rfl, fun _ h => absurd h List.not_mem_nil⟩⟩⟩⟩⟩⟩⟩⟩⟩⟩⟩⟩⟩⟩⟩⟩
def zLM_2 : List (Nat × Nat × Nat) := [(13, 74, 123), (11, 228, 124), (13, 78, 125), (13, 82, 126), (11, 232, 90), (11, 239, 13), (2, 29, 40), (2, 52, 14), (2, 62, 15), (2, 66, 16), (2, 55, 17), (2, 95, 18), (2, 98, 19), (2, 73, 20), (2, 101, 21), (2, 119, 22)]
set_option maxRecDepth 100000 in
theorem zLM_2_ok : ∀ e ∈ zLM_2, zpM e := List.forall_mem_cons.mpr ⟨List.mem_of_getElem? (i := 768) rfl, List.forall_mem_cons.mpr ⟨List.mem_of_getElem? (i := 772) rfl, List.forall_mem_cons.mpr ⟨List.mem_of_getElem? (i := 776) rfl, List.forall_mem_cons.mpr ⟨List.mem_of_getElem? (i := 780) rfl, List.forall_mem_cons.mpr ⟨List.mem_of_getElem? (i := 784) rfl, List.forall_mem_cons.mpr ⟨List.mem_of_getElem? (i := 789) rfl, List.forall_mem_cons.mpr ⟨List.mem_of_getElem? (i := 794) rfl, List.forall_mem_cons.mpr ⟨List.mem_of_getElem? (i := 798) rfl, List.forall_mem_cons.mpr ⟨List.mem_of_getElem? (i := 802) rfl, List.forall_mem_cons.mpr ⟨List.mem_of_getElem? (i := 806) rfl, List.forall_mem_cons.mpr ⟨List.mem_of_getElem? (i := 810) rfl, List.forall_mem_cons.mpr ⟨List.mem_of_getElem? (i := 814) rfl, List.forall_mem_cons.mpr ⟨List.mem_of_getElem? (i := 818) rfl, List.forall_mem_cons.mpr ⟨List.mem_of_getElem? (i := 822) rfl, List.forall_mem_cons.mpr ⟨List.mem_of_getElem? (i := 867) rfl, List.forall_mem_cons.mpr ⟨List.mem_of_getElem? (i := 871) rfl, fun _ h => absurd h List.not_mem_nil⟩⟩⟩⟩⟩⟩⟩⟩⟩⟩⟩⟩⟩⟩⟩⟩
def zLM_3 : List (Nat × Nat × Nat) := [(2, 116, 23), (2, 84, 41), (2, 88, 42), (2, 104, 24), (2, 129, 25), (2, 135, 26), (2, 69, 27), (2, 138, 28), (2, 107, 29), (2, 132, 30), (2, 110, 31), (2, 122, 32), (2, 125, 33), (2, 92, 43), (2, 113, 34), (13, 86, 127)]
set_option maxRecDepth 100000 in
theorem zLM_3_ok : ∀ e ∈ zLM_3, zpM e := List.forall_mem_cons.mpr ⟨List.mem_of_getElem? (i := 875) rfl, List.forall_mem_cons.mpr ⟨List.mem_of_getElem? (i := 879) rfl, List.forall_mem_cons.mpr ⟨List.mem_of_getElem? (i := 883) rfl, List.forall_mem_cons.mpr ⟨List.mem_of_getElem? (i := 887) rfl, List.forall_mem_cons.mpr ⟨List.mem_of_getElem? (i := 891) rfl, List.forall_mem_cons.mpr ⟨List.mem_of_getElem? (i := 895) rfl, List.forall_mem_cons.mpr ⟨List.mem_of_getElem? (i := 962) rfl, List.forall_mem_cons.mpr ⟨List.mem_of_getElem? (i := 966) rfl, List.forall_mem_cons.mpr ⟨List.mem_of_getElem? (i := 970) rfl, List.forall_mem_cons.mpr ⟨List.mem_of_getElem? (i := 974) rfl, List.forall_mem_cons.mpr ⟨List.mem_of_getElem? (i := 978) rfl, List.forall_mem_cons.mpr ⟨List.mem_of_getElem? (i := 982) rfl, List.forall_mem_cons.mpr ⟨List.mem_of_getElem? (i := 986) rfl, List.forall_mem_cons.mpr ⟨List.mem_of_getElem? (i := 990) rfl, List.forall_mem_cons.mpr ⟨List.mem_of_getElem? (i := 994) rfl, List.forall_mem_cons.mpr ⟨List.mem_of_getElem? (i := 999) rfl, fun _ h => absurd h List.not_mem_nil⟩⟩⟩⟩⟩⟩⟩⟩⟩⟩⟩⟩⟩⟩⟩⟩
def zLM_4 : List (Nat × Nat × Nat) := [(11, 243, 43), (11, 253, 41), (11, 256, 91), (10, 155, 2), (11, 260, 42), (13, 90, 128), (11, 266, 92), (10, 141, 43), (10, 160, 44), (10, 163, 93), (10, 175, 86), (10, 165, 45), (10, 169, 94), (10, 172, 95), (11, 269, 49), (5, 15, 86)]
set_option maxRecDepth 100000 in
theorem zLM_4_ok : ∀ e ∈ zLM_4, zpM e := List.forall_mem_cons.mpr ⟨List.mem_of_getElem? (i := 1003) rfl, List.forall_mem_cons.mpr ⟨List.mem_of_getElem? (i := 1004) rfl, List.forall_mem_cons.mpr ⟨List.mem_of_getElem? (i := 1005) rfl, List.forall_mem_cons.mpr ⟨List.mem_of_getElem? (i := 1010) rfl, List.forall_mem_cons.mpr ⟨List.mem_of_getElem? (i := 1019) rfl, List.forall_mem_cons.mpr ⟨List.mem_of_getElem? (i := 1020) rfl, List.forall_mem_cons.mpr ⟨List.mem_of_getElem? (i := 1024) rfl, List.forall_mem_cons.mpr ⟨List.mem_of_getElem? (i := 1028) rfl, List.forall_mem_cons.mpr ⟨List.mem_of_getElem? (i := 1029) rfl, List.forall_mem_cons.mpr ⟨List.mem_of_getElem? (i := 1033) rfl, List.forall_mem_cons.mpr ⟨List.mem_of_getElem? (i := 1037) rfl, List.forall_mem_cons.mpr ⟨List.mem_of_getElem? (i := 1039) rfl, List.forall_mem_cons.mpr ⟨List.mem_of_getElem? (i := 1046) rfl, List.forall_mem_cons.mpr ⟨List.mem_of_getElem? (i := 1050) rfl, List.forall_mem_cons.mpr ⟨List.mem_of_getElem? (i := 1054) rfl, List.forall_mem_cons.mpr ⟨List.mem_of_getElem? (i := 1058) rfl, fun _ h => absurd h List.not_mem_nil⟩⟩⟩⟩⟩⟩⟩⟩⟩⟩⟩⟩⟩⟩⟩⟩
def zLM_5 : List (Nat × Nat × Nat) := [(5, 36, 50), (5, 56, 51), (5, 60, 43), (5, 70, 44), (5, 67, 52), (5, 90, 53), (5, 93, 54), (5, 110, 87), (5, 117, 55), (5, 120, 85), (5, 133, 89), (5, 77, 56), (5, 97, 57), (5, 80, 58), (5, 212, 3), (0, 30, 2)]
set_option maxRecDepth 100000 in
theorem zLM_5_ok : ∀ e ∈ zLM_5, zpM e := List.forall_mem_cons.mpr ⟨List.mem_of_getElem? (i := 1059) rfl, List.forall_mem_cons.mpr ⟨List.mem_of_getElem? (i := 1064) rfl, List.forall_mem_cons.mpr ⟨List.mem_of_getElem? (i := 1067) rfl, List.forall_mem_cons.mpr ⟨List.mem_of_getElem? (i := 1068) rfl, List.forall_mem_cons.mpr ⟨List.mem_of_getElem? (i := 1070) rfl, List.forall_mem_cons.mpr ⟨List.mem_of_getElem? (i := 1074) rfl, List.forall_mem_cons.mpr ⟨List.mem_of_getElem? (i := 1078) rfl, List.forall_mem_cons.mpr ⟨List.mem_of_getElem? (i := 1082) rfl, List.forall_mem_cons.mpr ⟨List.mem_of_getElem? (i := 1083) rfl, List.forall_mem_cons.mpr ⟨List.mem_of_getElem? (i := 1087) rfl, List.forall_mem_cons.mpr ⟨List.mem_of_getElem? (i := 1088) rfl, List.forall_mem_cons.mpr ⟨List.mem_of_getElem? (i := 1089) rfl, List.forall_mem_cons.mpr ⟨List.mem_of_getElem? (i := 1093) rfl, List.forall_mem_cons.mpr ⟨List.mem_of_getElem? (i := 1096) rfl, List.forall_mem_cons.mpr ⟨List.mem_of_getElem? (i := 1100) rfl, List.forall_mem_cons.mpr ⟨List.mem_of_getElem? (i := 1104) rfl, fun _ h => absurd h List.not_mem_nil⟩⟩⟩⟩⟩⟩⟩⟩⟩⟩⟩⟩⟩⟩⟩⟩
def zLM_6 : List (Nat × Nat × Nat) := [(5, 219, 88), (5, 83, 59), (5, 151, 60), (5, 195, 78), (5, 198, 37), (3, 60, 4), (5, 202, 4), (5, 154, 61), (5, 162, 5), (5, 169, 62), (5, 229, 79), (5, 173, 63), (5, 177, 96), (10, 191, 41), (10, 194, 89), (10, 198, 91)]
set_option maxRecDepth 100000 in
theorem zLM_6_ok : ∀ e ∈ zLM_6, zpM e := List.forall_mem_cons.mpr ⟨List.mem_of_getElem? (i := 1105) rfl, List.forall_mem_cons.mpr ⟨List.mem_of_getElem? (i := 1106) rfl, List.forall_mem_cons.mpr ⟨List.mem_of_getElem? (i := 1110) rfl, List.forall_mem_cons.mpr ⟨List.mem_of_getElem? (i := 1118) rfl, List.forall_mem_cons.mpr ⟨List.mem_of_getElem? (i := 1122) rfl, List.forall_mem_cons.mpr ⟨List.mem_of_getElem? (i := 1126) rfl, List.forall_mem_cons.mpr ⟨List.mem_of_getElem? (i := 1133) rfl, List.forall_mem_cons.mpr ⟨List.mem_of_getElem? (i := 1134) rfl, List.forall_mem_cons.mpr ⟨List.mem_of_getElem? (i := 1139) rfl, List.forall_mem_cons.mpr ⟨List.mem_of_getElem? (i := 1143) rfl, List.forall_mem_cons.mpr ⟨List.mem_of_getElem? (i := 1148) rfl, List.forall_mem_cons.mpr ⟨List.mem_of_getElem? (i := 1152) rfl, List.forall_mem_cons.mpr ⟨List.mem_of_getElem? (i := 1156) rfl, List.forall_mem_cons.mpr ⟨List.mem_of_getElem? (i := 1160) rfl, List.forall_mem_cons.mpr ⟨List.mem_of_getElem? (i := 1161) rfl, List.forall_mem_cons.mpr ⟨List.mem_of_getElem? (i := 1162) rfl, fun _ h => absurd h List.not_mem_nil⟩⟩⟩⟩⟩⟩⟩⟩⟩⟩⟩⟩⟩⟩⟩⟩
def zLM_7 : List (Nat × Nat × Nat) := [(10, 202, 42), (5, 180, 64), (5, 246, 8), (5, 249, 9), (5, 183, 65), (11, 273, 97), (10, 205, 98), (10, 213, 75), (7, 19, 2), (7, 29, 4), (10, 216, 6), (10, 209, 87), (11, 276, 99), (10, 222, 100), (13, 94, 130), (13, 98, 131)]
set_option maxRecDepth 100000 in
theorem zLM_7_ok : ∀ e ∈ zLM_7, zpM e := List.forall_mem_cons.mpr ⟨List.mem_of_getElem? (i := 1163) rfl, List.forall_mem_cons.mpr ⟨List.mem_of_getElem? (i := 1164) rfl, List.forall_mem_cons.mpr ⟨List.mem_of_getElem? (i := 1168) rfl, List.forall_mem_cons.mpr ⟨List.mem_of_getElem? (i := 1173) rfl, List.forall_mem_cons.mpr ⟨List.mem_of_getElem? (i := 1178) rfl, List.forall_mem_cons.mpr ⟨List.mem_of_getElem? (i := 1182) rfl, List.forall_mem_cons.mpr ⟨List.mem_of_getElem? (i := 1186) rfl, List.forall_mem_cons.mpr ⟨List.mem_of_getElem? (i := 1190) rfl, List.forall_mem_cons.mpr ⟨List.mem_of_getElem? (i := 1194) rfl, List.forall_mem_cons.mpr ⟨List.mem_of_getElem? (i := 1196) rfl, List.forall_mem_cons.mpr ⟨List.mem_of_getElem? (i := 1197) rfl, List.forall_mem_cons.mpr ⟨List.mem_of_getElem? (i := 1201) rfl, List.forall_mem_cons.mpr ⟨List.mem_of_getElem? (i := 1202) rfl, List.forall_mem_cons.mpr ⟨List.mem_of_getElem? (i := 1206) rfl, List.forall_mem_cons.mpr ⟨List.mem_of_getElem? (i := 1210) rfl, List.forall_mem_cons.mpr ⟨List.mem_of_getElem? (i := 1214) rfl, fun _ h => absurd h List.not_mem_nil⟩⟩⟩⟩⟩⟩⟩⟩⟩⟩⟩⟩⟩⟩⟩⟩
def zLM_8 : List (Nat × Nat × Nat) := [(11, 282, 80), (13, 102, 132), (11, 290, 101), (13, 106, 133), (11, 294, 134), (11, 297, 135), (11, 301, 5), (11, 305, 3), (11, 308, 98), (13, 110, 136), (11, 318, 10), (13, 114, 137), (11, 329, 8), (13, 118, 138), (13, 123, 139), (13, 128, 140)]
set_option maxRecDepth 100000 in
theorem zLM_8_ok : ∀ e ∈ zLM_8, zpM e := List.forall_mem_cons.mpr ⟨List.mem_of_getElem? (i := 1218) rfl, List.forall_mem_cons.mpr ⟨List.mem_of_getElem? (i := 1223) rfl, List.forall_mem_cons.mpr ⟨List.mem_of_getElem? (i := 1227) rfl, List.forall_mem_cons.mpr ⟨List.mem_of_getElem? (i := 1235) rfl, List.forall_mem_cons.mpr ⟨List.mem_of_getElem? (i := 1239) rfl, List.forall_mem_cons.mpr ⟨List.mem_of_getElem? (i := 1243) rfl, List.forall_mem_cons.mpr ⟨List.mem_of_getElem? (i := 1247) rfl, List.forall_mem_cons.mpr ⟨List.mem_of_getElem? (i := 1248) rfl, List.forall_mem_cons.mpr ⟨List.mem_of_getElem? (i := 1249) rfl, List.forall_mem_cons.mpr ⟨List.mem_of_getElem? (i := 1250) rfl, List.forall_mem_cons.mpr ⟨List.mem_of_getElem? (i := 1254) rfl, List.forall_mem_cons.mpr ⟨List.mem_of_getElem? (i := 1258) rfl, List.forall_mem_cons.mpr ⟨List.mem_of_getElem? (i := 1262) rfl, List.forall_mem_cons.mpr ⟨List.mem_of_getElem? (i := 1263) rfl, List.forall_mem_cons.mpr ⟨List.mem_of_getElem? (i := 1267) rfl, List.forall_mem_cons.mpr ⟨List.mem_of_getElem? (i := 1271) rfl, fun _ h => absurd h List.not_mem_nil⟩⟩⟩⟩⟩⟩⟩⟩⟩⟩⟩⟩⟩⟩⟩⟩
def zLM_9 : List (Nat × Nat × Nat) := [(13, 132, 141), (11, 360, 67), (6, 41, 40), (6, 50, 68), (6, 54, 43), (6, 87, 69), (6, 106, 70), (6, 130, 41), (6, 133, 42), (6, 110, 71), (6, 114, 72), (6, 136, 46), (6, 117, 47), (11, 371, 46), (13, 136, 142), (11, 380, 44)]
set_option maxRecDepth 100000 in
theorem zLM_9_ok : ∀ e ∈ zLM_9, zpM e := List.forall_mem_cons.mpr ⟨List.mem_of_getElem? (i := 1275) rfl, List.forall_mem_cons.mpr ⟨List.mem_of_getElem? (i := 1279) rfl, List.forall_mem_cons.mpr ⟨List.mem_of_getElem? (i := 1283) rfl, List.forall_mem_cons.mpr ⟨List.mem_of_getElem? (i := 1284) rfl, List.forall_mem_cons.mpr ⟨List.mem_of_getElem? (i := 1288) rfl, List.forall_mem_cons.mpr ⟨List.mem_of_getElem? (i := 1290) rfl, List.forall_mem_cons.mpr ⟨List.mem_of_getElem? (i := 1295) rfl, List.forall_mem_cons.mpr ⟨List.mem_of_getElem? (i := 1299) rfl, List.forall_mem_cons.mpr ⟨List.mem_of_getElem? (i := 1300) rfl, List.forall_mem_cons.mpr ⟨List.mem_of_getElem? (i := 1301) rfl, List.forall_mem_cons.mpr ⟨List.mem_of_getElem? (i := 1305) rfl, List.forall_mem_cons.mpr ⟨List.mem_of_getElem? (i := 1309) rfl, List.forall_mem_cons.mpr ⟨List.mem_of_getElem? (i := 1314) rfl, List.forall_mem_cons.mpr ⟨List.mem_of_getElem? (i := 1319) rfl, List.forall_mem_cons.mpr ⟨List.mem_of_getElem? (i := 1320) rfl, List.forall_mem_cons.mpr ⟨List.mem_of_getElem? (i := 1324) rfl, fun _ h => absurd h List.not_mem_nil⟩⟩⟩⟩⟩⟩⟩⟩⟩⟩⟩⟩⟩⟩⟩⟩
def zLM_10 : List (Nat × Nat × Nat) := [(13, 140, 143), (13, 144, 144), (13, 148, 145), (11, 386, 102), (10, 97, 74), (10, 101, 38), (3, 52, 36), (3, 56, 5), (10, 105, 81), (8, 58, 77), (8, 62, 5), (10, 108, 11), (1, 34, 10), (10, 111, 83), (10, 114, 46), (13, 152, 146)]
set_option maxRecDepth 100000 in
theorem zLM_10_ok : ∀ e ∈ zLM_10, zpM e := List.forall_mem_cons.mpr ⟨List.mem_of_getElem? (i := 1325) rfl, List.forall_mem_cons.mpr ⟨List.mem_of_getElem? (i := 1329) rfl, List.forall_mem_cons.mpr ⟨List.mem_of_getElem? (i := 1333) rfl, List.forall_mem_cons.mpr ⟨List.mem_of_getElem? (i := 1337) rfl, List.forall_mem_cons.mpr ⟨List.mem_of_getElem? (i := 1341) rfl, List.forall_mem_cons.mpr ⟨List.mem_of_getElem? (i := 1342) rfl, List.forall_mem_cons.mpr ⟨List.mem_of_getElem? (i := 1346) rfl, List.forall_mem_cons.mpr ⟨List.mem_of_getElem? (i := 1347) rfl, List.forall_mem_cons.mpr ⟨List.mem_of_getElem? (i := 1348) rfl, List.forall_mem_cons.mpr ⟨List.mem_of_getElem? (i := 1352) rfl, List.forall_mem_cons.mpr ⟨List.mem_of_getElem? (i := 1353) rfl, List.forall_mem_cons.mpr ⟨List.mem_of_getElem? (i := 1354) rfl, List.forall_mem_cons.mpr ⟨List.mem_of_getElem? (i := 1358) rfl, List.forall_mem_cons.mpr ⟨List.mem_of_getElem? (i := 1359) rfl, List.forall_mem_cons.mpr ⟨List.mem_of_getElem? (i := 1363) rfl, List.forall_mem_cons.mpr ⟨List.mem_of_getElem? (i := 1364) rfl, fun _ h => absurd h List.not_mem_nil⟩⟩⟩⟩⟩⟩⟩⟩⟩⟩⟩⟩⟩⟩⟩⟩
def zLM_11 : List (Nat × Nat × Nat) := [(13, 156, 147), (13, 160, 148), (13, 164, 149), (13, 168, 150), (11, 400, 103), (13, 12, 151), (13, 17, 152), (12, 88, 153), (12, 80, 154), (13, 22, 155), (13, 26, 156), (12, 95, 157), (13, 30, 158), (13, 35, 159), (12, 99, 160), (13, 40, 161)]
set_option maxRecDepth 100000 in
theorem zLM_11_ok : ∀ e ∈ zLM_11, zpM e := List.forall_mem_cons.mpr ⟨List.mem_of_getElem? (i := 1368) rfl, List.forall_mem_cons.mpr ⟨List.mem_of_getElem? (i := 1373) rfl, List.forall_mem_cons.mpr ⟨List.mem_of_getElem? (i := 1378) rfl, List.forall_mem_cons.mpr ⟨List.mem_of_getElem? (i := 1383) rfl, List.forall_mem_cons.mpr ⟨List.mem_of_getElem? (i := 1387) rfl, List.forall_mem_cons.mpr ⟨List.mem_of_getElem? (i := 1393) rfl, List.forall_mem_cons.mpr ⟨List.mem_of_getElem? (i := 1521) rfl, List.forall_mem_cons.mpr ⟨List.mem_of_getElem? (i := 1525) rfl, List.forall_mem_cons.mpr ⟨List.mem_of_getElem? (i := 1530) rfl, List.forall_mem_cons.mpr ⟨List.mem_of_getElem? (i := 1535) rfl, List.forall_mem_cons.mpr ⟨List.mem_of_getElem? (i := 1540) rfl, List.forall_mem_cons.mpr ⟨List.mem_of_getElem? (i := 1544) rfl, List.forall_mem_cons.mpr ⟨List.mem_of_getElem? (i := 1548) rfl, List.forall_mem_cons.mpr ⟨List.mem_of_getElem? (i := 1552) rfl, List.forall_mem_cons.mpr ⟨List.mem_of_getElem? (i := 1557) rfl, List.forall_mem_cons.mpr ⟨List.mem_of_getElem? (i := 1560) rfl, fun _ h => absurd h List.not_mem_nil⟩⟩⟩⟩⟩⟩⟩⟩⟩⟩⟩⟩⟩⟩⟩⟩
def zLM_12 : List (Nat × Nat × Nat) := [(12, 103, 162), (13, 44, 163), (12, 106, 164), (13, 48, 165), (13, 52, 166), (13, 57, 167), (13, 61, 168), (12, 111, 169), (13, 65, 170), (12, 117, 171), (12, 114, 172), (13, 69, 173), (13, 73, 174), (12, 120, 175), (13, 77, 176), (13, 81, 177)]
set_option maxRecDepth 100000 in
theorem zLM_12_ok : ∀ e ∈ zLM_12, zpM e := List.forall_mem_cons.mpr ⟨List.mem_of_getElem? (i := 1564) rfl, List.forall_mem_cons.mpr ⟨List.mem_of_getElem? (i := 1568) rfl, List.forall_mem_cons.mpr ⟨List.mem_of_getElem? (i := 1572) rfl, List.forall_mem_cons.mpr ⟨List.mem_of_getElem? (i := 1575) rfl, List.forall_mem_cons.mpr ⟨List.mem_of_getElem? (i := 1580) rfl, List.forall_mem_cons.mpr ⟨List.mem_of_getElem? (i := 1584) rfl, List.forall_mem_cons.mpr ⟨List.mem_of_getElem? (i := 1588) rfl, List.forall_mem_cons.mpr ⟨List.mem_of_getElem? (i := 1592) rfl, List.forall_mem_cons.mpr ⟨List.mem_of_getElem? (i := 1596) rfl, List.forall_mem_cons.mpr ⟨List.mem_of_getElem? (i := 1600) rfl, List.forall_mem_cons.mpr ⟨List.mem_of_getElem? (i := 1604) rfl, List.forall_mem_cons.mpr ⟨List.mem_of_getElem? (i := 1608) rfl, List.forall_mem_cons.mpr ⟨List.mem_of_getElem? (i := 1612) rfl, List.forall_mem_cons.mpr ⟨List.mem_of_getElem? (i := 1616) rfl, List.forall_mem_cons.mpr ⟨List.mem_of_getElem? (i := 1620) rfl, List.forall_mem_cons.mpr ⟨List.mem_of_getElem? (i := 1624) rfl, fun _ h => absurd h List.not_mem_nil⟩⟩⟩⟩⟩⟩⟩⟩⟩⟩⟩⟩⟩⟩⟩⟩
def zLM_13 : List (Nat × Nat × Nat) := [(13, 85, 178), (12, 241, 179), (12, 158, 180), (12, 146, 181), (12, 149, 182), (12, 174, 183), (12, 235, 184), (12, 210, 185), (12, 214, 186), (12, 218, 187), (12, 222, 188), (12, 238, 189), (12, 228, 190), (12, 180, 191), (12, 232, 192), (12, 190, 193)]
set_option maxRecDepth 100000 in
theorem zLM_13_ok : ∀ e ∈ zLM_13, zpM e := List.forall_mem_cons.mpr ⟨List.mem_of_getElem? (i := 1628) rfl, List.forall_mem_cons.mpr ⟨List.mem_of_getElem? (i := 1632) rfl, List.forall_mem_cons.mpr ⟨List.mem_of_getElem? (i := 1636) rfl, List.forall_mem_cons.mpr ⟨List.mem_of_getElem? (i := 1640) rfl, List.forall_mem_cons.mpr ⟨List.mem_of_getElem? (i := 1643) rfl, List.forall_mem_cons.mpr ⟨List.mem_of_getElem? (i := 1647) rfl, List.forall_mem_cons.mpr ⟨List.mem_of_getElem? (i := 1651) rfl, List.forall_mem_cons.mpr ⟨List.mem_of_getElem? (i := 1655) rfl, List.forall_mem_cons.mpr ⟨List.mem_of_getElem? (i := 1659) rfl, List.forall_mem_cons.mpr ⟨List.mem_of_getElem? (i := 1666) rfl, List.forall_mem_cons.mpr ⟨List.mem_of_getElem? (i := 1669) rfl, List.forall_mem_cons.mpr ⟨List.mem_of_getElem? (i := 1673) rfl, List.forall_mem_cons.mpr ⟨List.mem_of_getElem? (i := 1677) rfl, List.forall_mem_cons.mpr ⟨List.mem_of_getElem? (i := 1681) rfl, List.forall_mem_cons.mpr ⟨List.mem_of_getElem? (i := 1685) rfl, List.forall_mem_cons.mpr ⟨List.mem_of_getElem? (i := 1689) rfl, fun _ h => absurd h List.not_mem_nil⟩⟩⟩⟩⟩⟩⟩⟩⟩⟩⟩⟩⟩⟩⟩⟩
def zLM_14 : List (Nat × Nat × Nat) := [(12, 167, 194), (12, 184, 195), (12, 187, 196), (12, 194, 197), (12, 197, 198), (13, 89, 199), (12, 260, 200), (12, 254, 201), (12, 84, 202), (13, 93, 203), (12, 333, 204), (12, 309, 205), (12, 312, 206), (12, 315, 207), (12, 318, 208), (12, 298, 209)]
set_option maxRecDepth 100000 in
theorem zLM_14_ok : ∀ e ∈ zLM_14, zpM e := List.forall_mem_cons.mpr ⟨List.mem_of_getElem? (i := 1693) rfl, List.forall_mem_cons.mpr ⟨List.mem_of_getElem? (i := 1697) rfl, List.forall_mem_cons.mpr ⟨List.mem_of_getElem? (i := 1700) rfl, List.forall_mem_cons.mpr ⟨List.mem_of_getElem? (i := 1704) rfl, List.forall_mem_cons.mpr ⟨List.mem_of_getElem? (i := 1708) rfl, List.forall_mem_cons.mpr ⟨List.mem_of_getElem? (i := 1712) rfl, List.forall_mem_cons.mpr ⟨List.mem_of_getElem? (i := 1716) rfl, List.forall_mem_cons.mpr ⟨List.mem_of_getElem? (i := 1720) rfl, List.forall_mem_cons.mpr ⟨List.mem_of_getElem? (i := 1723) rfl, List.forall_mem_cons.mpr ⟨List.mem_of_getElem? (i := 1726) rfl, List.forall_mem_cons.mpr ⟨List.mem_of_getElem? (i := 1730) rfl, List.forall_mem_cons.mpr ⟨List.mem_of_getElem? (i := 1734) rfl, List.forall_mem_cons.mpr ⟨List.mem_of_getElem? (i := 1738) rfl, List.forall_mem_cons.mpr ⟨List.mem_of_getElem? (i := 1742) rfl, List.forall_mem_cons.mpr ⟨List.mem_of_getElem? (i := 1746) rfl, List.forall_mem_cons.mpr ⟨List.mem_of_getElem? (i := 1750) rfl, fun _ h => absurd h List.not_mem_nil⟩⟩⟩⟩⟩⟩⟩⟩⟩⟩⟩⟩⟩⟩⟩⟩
def zLM_15 : List (Nat × Nat × Nat) := [(12, 263, 210), (12, 244, 211), (12, 247, 212), (12, 267, 213), (12, 270, 214), (12, 251, 215), (12, 274, 216), (12, 277, 217), (12, 280, 218), (12, 283, 219), (12, 286, 220), (12, 257, 221), (12, 289, 222), (12, 292, 223), (12, 295, 224), (12, 321, 225)]
set_option maxRecDepth 100000 in
theorem zLM_15_ok : ∀ e ∈ zLM_15, zpM e := List.forall_mem_cons.mpr ⟨List.mem_of_getElem? (i := 1754) rfl, List.forall_mem_cons.mpr ⟨List.mem_of_getElem? (i := 1758) rfl, List.forall_mem_cons.mpr ⟨List.mem_of_getElem? (i := 1762) rfl, List.forall_mem_cons.mpr ⟨List.mem_of_getElem? (i := 1765) rfl, List.forall_mem_cons.mpr ⟨List.mem_of_getElem? (i := 1768) rfl, List.forall_mem_cons.mpr ⟨List.mem_of_getElem? (i := 1772) rfl, List.forall_mem_cons.mpr ⟨List.mem_of_getElem? (i := 1777) rfl, List.forall_mem_cons.mpr ⟨List.mem_of_getElem? (i := 1781) rfl, List.forall_mem_cons.mpr ⟨List.mem_of_getElem? (i := 1785) rfl, List.forall_mem_cons.mpr ⟨List.mem_of_getElem? (i := 1789) rfl, List.forall_mem_cons.mpr ⟨List.mem_of_getElem? (i := 1793) rfl, List.forall_mem_cons.mpr ⟨List.mem_of_getElem? (i := 1797) rfl, List.forall_mem_cons.mpr ⟨List.mem_of_getElem? (i := 1801) rfl, List.forall_mem_cons.mpr ⟨List.mem_of_getElem? (i := 1805) rfl, List.forall_mem_cons.mpr ⟨List.mem_of_getElem? (i := 1809) rfl, List.forall_mem_cons.mpr ⟨List.mem_of_getElem? (i := 1813) rfl, fun _ h => absurd h List.not_mem_nil⟩⟩⟩⟩⟩⟩⟩⟩⟩⟩⟩⟩⟩⟩⟩⟩
def zLM_16 : List (Nat × Nat × Nat) := [(12, 324, 226), (12, 303, 227), (12, 306, 228), (12, 327, 229), (12, 330, 230), (13, 97, 231), (13, 101, 232), (13, 105, 233), (13, 109, 234), (12, 338, 235), (12, 341, 236), (13, 113, 237), (13, 117, 238), (13, 122, 239), (13, 127, 240), (13, 131, 241)]
set_option maxRecDepth 100000 in
theorem zLM_16_ok : ∀ e ∈ zLM_16, zpM e := List.forall_mem_cons.mpr ⟨List.mem_of_getElem? (i := 1817) rfl, List.forall_mem_cons.mpr ⟨List.mem_of_getElem? (i := 1821) rfl, List.forall_mem_cons.mpr ⟨List.mem_of_getElem? (i := 1826) rfl, List.forall_mem_cons.mpr ⟨List.mem_of_getElem? (i := 1830) rfl, List.forall_mem_cons.mpr ⟨List.mem_of_getElem? (i := 1834) rfl, List.forall_mem_cons.mpr ⟨List.mem_of_getElem? (i := 1838) rfl, List.forall_mem_cons.mpr ⟨List.mem_of_getElem? (i := 1842) rfl, List.forall_mem_cons.mpr ⟨List.mem_of_getElem? (i := 1846) rfl, List.forall_mem_cons.mpr ⟨List.mem_of_getElem? (i := 1851) rfl, List.forall_mem_cons.mpr ⟨List.mem_of_getElem? (i := 1855) rfl, List.forall_mem_cons.mpr ⟨List.mem_of_getElem? (i := 1859) rfl, List.forall_mem_cons.mpr ⟨List.mem_of_getElem? (i := 1863) rfl, List.forall_mem_cons.mpr ⟨List.mem_of_getElem? (i := 1867) rfl, List.forall_mem_cons.mpr ⟨List.mem_of_getElem? (i := 1871) rfl, List.forall_mem_cons.mpr ⟨List.mem_of_getElem? (i := 1875) rfl, List.forall_mem_cons.mpr ⟨List.mem_of_getElem? (i := 1879) rfl, fun _ h => absurd h List.not_mem_nil⟩⟩⟩⟩⟩⟩⟩⟩⟩⟩⟩⟩⟩⟩⟩⟩
def zLM_17 : List (Nat × Nat × Nat) := [(13, 135, 242), (12, 356, 243), (12, 344, 244), (12, 359, 245), (13, 139, 246), (13, 143, 247), (13, 147, 248), (13, 151, 249), (13, 155, 250), (13, 159, 251), (13, 163, 252), (13, 167, 253), (13, 171, 254)]
set_option maxRecDepth 100000 in
theorem zLM_17_ok : ∀ e ∈ zLM_17, zpM e := List.forall_mem_cons.mpr ⟨List.mem_of_getElem? (i := 1883) rfl, List.forall_mem_cons.mpr ⟨List.mem_of_getElem? (i := 1887) rfl, List.forall_mem_cons.mpr ⟨List.mem_of_getElem? (i := 1891) rfl, List.forall_mem_cons.mpr ⟨List.mem_of_getElem? (i := 1895) rfl, List.forall_mem_cons.mpr ⟨List.mem_of_getElem? (i := 1900) rfl, List.forall_mem_cons.mpr ⟨List.mem_of_getElem? (i := 1904) rfl, List.forall_mem_cons.mpr ⟨List.mem_of_getElem? (i := 1908) rfl, List.forall_mem_cons.mpr ⟨List.mem_of_getElem? (i := 1912) rfl, List.forall_mem_cons.mpr ⟨List.mem_of_getElem? (i := 1916) rfl, List.forall_mem_cons.mpr ⟨List.mem_of_getElem? (i := 1920) rfl, List.forall_mem_cons.mpr ⟨List.mem_of_getElem? (i := 1925) rfl, List.forall_mem_cons.mpr ⟨List.mem_of_getElem? (i := 1930) rfl, List.forall_mem_cons.mpr ⟨List.mem_of_getElem? (i := 1934) rfl, fun _ h => absurd h List.not_mem_nil⟩⟩⟩⟩⟩⟩⟩⟩⟩⟩⟩⟩⟩
def zLM : List (Nat × Nat × Nat) := zLM_0 ++ (zLM_1 ++ (zLM_2 ++ (zLM_3 ++ (zLM_4 ++ (zLM_5 ++ (zLM_6 ++ (zLM_7 ++ (zLM_8 ++ (zLM_9 ++ (zLM_10 ++ (zLM_11 ++ (zLM_12 ++ (zLM_13 ++ (zLM_14 ++ (zLM_15 ++ (zLM_16 ++ (zLM_17)))))))))))))))))
set_option maxRecDepth 100000 in
theorem zLM_ok : ∀ e ∈ zLM, zpM e := List.forall_mem_append.mpr ⟨zLM_0_ok, List.forall_mem_append.mpr ⟨zLM_1_ok, List.forall_mem_append.mpr ⟨zLM_2_ok, List.forall_mem_append.mpr ⟨zLM_3_ok, List.forall_mem_append.mpr ⟨zLM_4_ok, List.forall_mem_append.mpr ⟨zLM_5_ok, List.forall_mem_append.mpr ⟨zLM_6_ok, List.forall_mem_append.mpr ⟨zLM_7_ok, List.forall_mem_append.mpr ⟨zLM_8_ok, List.forall_mem_append.mpr ⟨zLM_9_ok, List.forall_mem_append.mpr ⟨zLM_10_ok, List.forall_mem_append.mpr ⟨zLM_11_ok, List.forall_mem_append.mpr ⟨zLM_12_ok, List.forall_mem_append.mpr ⟨zLM_13_ok, List.forall_mem_append.mpr ⟨zLM_14_ok, List.forall_mem_append.mpr ⟨zLM_15_ok, List.forall_mem_append.mpr ⟨zLM_16_ok, zLM_17_ok⟩⟩⟩⟩⟩⟩⟩⟩⟩⟩⟩⟩⟩⟩⟩⟩⟩
def zpH (e : Nat × Nat × Nat) : Prop := Cond.methodLinkNest (zRn e.1) e.2.1 (zM e.2.2).1 "RockTugs" ∈ lw_tbl
def zLH_0 : List (Nat × Nat × Nat) := [(10, 67, 73), (10, 68, 35), (3, 11, 0), (10, 69, 76), (8, 11, 0), (10, 70, 7), (10, 71, 82), (11, 36, 12), (11, 43, 48), (11, 50, 66), (11, 57, 0), (10, 178, 107), (5, 45, 107), (5, 186, 129), (0, 26, 129), (5, 222, 115)]
set_option maxRecDepth 100000 in
theorem zLH_0_ok : ∀ e ∈ zLH_0, zpH e := List.forall_mem_cons.mpr ⟨List.mem_of_getElem? (i := 166) rfl, List.forall_mem_cons.mpr ⟨List.mem_of_getElem? (i := 184) rfl, List.forall_mem_cons.mpr ⟨List.mem_of_getElem? (i := 190) rfl, List.forall_mem_cons.mpr ⟨List.mem_of_getElem? (i := 276) rfl, List.forall_mem_cons.mpr ⟨List.mem_of_getElem? (i := 281) rfl, List.forall_mem_cons.mpr ⟨List.mem_of_getElem? (i := 352) rfl, List.forall_mem_cons.mpr ⟨List.mem_of_getElem? (i := 384) rfl, List.forall_mem_cons.mpr ⟨List.mem_of_getElem? (i := 506) rfl, List.forall_mem_cons.mpr ⟨List.mem_of_getElem? (i := 544) rfl, List.forall_mem_cons.mpr ⟨List.mem_of_getElem? (i := 566) rfl, List.forall_mem_cons.mpr ⟨List.mem_of_getElem? (i := 603) rfl, List.forall_mem_cons.mpr ⟨List.mem_of_getElem? (i := 1038) rfl, List.forall_mem_cons.mpr ⟨List.mem_of_getElem? (i := 1063) rfl, List.forall_mem_cons.mpr ⟨List.mem_of_getElem? (i := 1114) rfl, List.forall_mem_cons.mpr ⟨List.mem_of_getElem? (i := 1132) rfl, List.forall_mem_cons.mpr ⟨List.mem_of_getElem? (i := 1147) rfl, fun _ h => absurd h List.not_mem_nil⟩⟩⟩⟩⟩⟩⟩⟩⟩⟩⟩⟩⟩⟩⟩⟩
def zLH_1 : List (Nat × Nat × Nat) := [(10, 240, 129)]
set_option maxRecDepth 100000 in
theorem zLH_1_ok : ∀ e ∈ zLH_1, zpH e := List.forall_mem_cons.mpr ⟨List.mem_of_getElem? (i := 1234) rfl, fun _ h => absurd h List.not_mem_nil⟩
def zLH : List (Nat × Nat × Nat) := zLH_0 ++ (zLH_1)
set_option maxRecDepth 100000 in
theorem zLH_ok : ∀ e ∈ zLH, zpH e := List.forall_mem_append.mpr ⟨zLH_0_ok, zLH_1_ok⟩
def zpO (e : Nat × Nat) : Prop := Cond.methodLink (zRn e.1) e.2 Lib.objectInit ∈ lw_tbl
def zLO_0 : List (Nat × Nat) := [(11, 1), (10, 3), (4, 1), (7, 1), (3, 3), (0, 3), (8, 3), (1, 3), (9, 1), (2, 3), (5, 3), (6, 3), (12, 1)]
set_option maxRecDepth 100000 in
theorem zLO_0_ok : ∀ e ∈ zLO_0, zpO e := List.forall_mem_cons.mpr ⟨List.mem_of_getElem? (i := 125) rfl, List.forall_mem_cons.mpr ⟨List.mem_of_getElem? (i := 133) rfl, List.forall_mem_cons.mpr ⟨List.mem_of_getElem? (i := 150) rfl, List.forall_mem_cons.mpr ⟨List.mem_of_getElem? (i := 169) rfl, List.forall_mem_cons.mpr ⟨List.mem_of_getElem? (i := 187) rfl, List.forall_mem_cons.mpr ⟨List.mem_of_getElem? (i := 193) rfl, List.forall_mem_cons.mpr ⟨List.mem_of_getElem? (i := 279) rfl, List.forall_mem_cons.mpr ⟨List.mem_of_getElem? (i := 355) rfl, List.forall_mem_cons.mpr ⟨List.mem_of_getElem? (i := 387) rfl, List.forall_mem_cons.mpr ⟨List.mem_of_getElem? (i := 509) rfl, List.forall_mem_cons.mpr ⟨List.mem_of_getElem? (i := 547) rfl, List.forall_mem_cons.mpr ⟨List.mem_of_getElem? (i := 569) rfl, List.forall_mem_cons.mpr ⟨List.mem_of_getElem? (i := 1396) rfl, fun _ h => absurd h List.not_mem_nil⟩⟩⟩⟩⟩⟩⟩⟩⟩⟩⟩⟩⟩
def zLO : List (Nat × Nat) := zLO_0
set_option maxRecDepth 100000 in
theorem zLO_ok : ∀ e ∈ zLO, zpO e := zLO_0_ok
def zpA (e : Nat × Nat) : Prop := Cond.methodLink (zRn e.1) e.2 arraycopyName ∈ lw_tbl
def zLA_0 : List (Nat × Nat) := [(4, 23), (11, 394)]
set_option maxRecDepth 100000 in
theorem zLA_0_ok : ∀ e ∈ zLA_0, zpA e := List.forall_mem_cons.mpr ⟨List.mem_of_getElem? (i := 1043) rfl, List.forall_mem_cons.mpr ⟨List.mem_of_getElem? (i := 1382) rfl, fun _ h => absurd h List.not_mem_nil⟩⟩
def zLA : List (Nat × Nat) := zLA_0
set_option maxRecDepth 100000 in
theorem zLA_ok : ∀ e ∈ zLA, zpA e := zLA_0_ok
def zpC (e : Nat × Nat) : Prop := Cond.methodLink (zRn e.1) e.2 ⟨"java/lang/String", "charAt", "(I)C"⟩ ∈ lw_tbl
def zLC_0 : List (Nat × Nat) := [(2, 78)]
set_option maxRecDepth 100000 in
theorem zLC_0_ok : ∀ e ∈ zLC_0, zpC e := List.forall_mem_cons.mpr ⟨List.mem_of_getElem? (i := 827) rfl, fun _ h => absurd h List.not_mem_nil⟩
def zLC : List (Nat × Nat) := zLC_0
set_option maxRecDepth 100000 in
theorem zLC_ok : ∀ e ∈ zLC, zpC e := zLC_0_ok
def zpmin (e : Nat × Nat) : Prop := Cond.methodLink (zRn e.1) e.2 Lib.Math.min.name ∈ lw_tbl
def zLmin_0 : List (Nat × Nat) := [(11, 126), (2, 15), (0, 43), (5, 206), (1, 38), (6, 127), (4, 29)]
set_option maxRecDepth 100000 in
theorem zLmin_0_ok : ∀ e ∈ zLmin_0, zpmin e := List.forall_mem_cons.mpr ⟨List.mem_of_getElem? (i := 700) rfl, List.forall_mem_cons.mpr ⟨List.mem_of_getElem? (i := 793) rfl, List.forall_mem_cons.mpr ⟨List.mem_of_getElem? (i := 1018) rfl, List.forall_mem_cons.mpr ⟨List.mem_of_getElem? (i := 1138) rfl, List.forall_mem_cons.mpr ⟨List.mem_of_getElem? (i := 1177) rfl, List.forall_mem_cons.mpr ⟨List.mem_of_getElem? (i := 1294) rfl, List.forall_mem_cons.mpr ⟨List.mem_of_getElem? (i := 1313) rfl, fun _ h => absurd h List.not_mem_nil⟩⟩⟩⟩⟩⟩⟩
def zLmin : List (Nat × Nat) := zLmin_0
set_option maxRecDepth 100000 in
theorem zLmin_ok : ∀ e ∈ zLmin, zpmin e := zLmin_0_ok
def zpmax (e : Nat × Nat) : Prop := Cond.methodLink (zRn e.1) e.2 Lib.Math.max.name ∈ lw_tbl
def zLmax_0 : List (Nat × Nat) := [(11, 163), (10, 149), (0, 40), (6, 75)]
set_option maxRecDepth 100000 in
theorem zLmax_0_ok : ∀ e ∈ zLmax_0, zpmax e := List.forall_mem_cons.mpr ⟨List.mem_of_getElem? (i := 719) rfl, List.forall_mem_cons.mpr ⟨List.mem_of_getElem? (i := 1009) rfl, List.forall_mem_cons.mpr ⟨List.mem_of_getElem? (i := 1017) rfl, List.forall_mem_cons.mpr ⟨List.mem_of_getElem? (i := 1289) rfl, fun _ h => absurd h List.not_mem_nil⟩⟩⟩⟩
def zLmax : List (Nat × Nat) := zLmax_0
set_option maxRecDepth 100000 in
theorem zLmax_ok : ∀ e ∈ zLmax, zpmax e := zLmax_0_ok
def zpabs (e : Nat × Nat) : Prop := Cond.methodLink (zRn e.1) e.2 Lib.Math.abs.name ∈ lw_tbl
def zLabs_0 : List (Nat × Nat) := [(0, 34), (5, 190)]
set_option maxRecDepth 100000 in
theorem zLabs_0_ok : ∀ e ∈ zLabs_0, zpabs e := List.forall_mem_cons.mpr ⟨List.mem_of_getElem? (i := 1014) rfl, List.forall_mem_cons.mpr ⟨List.mem_of_getElem? (i := 1117) rfl, fun _ h => absurd h List.not_mem_nil⟩⟩
def zLabs : List (Nat × Nat) := zLabs_0
set_option maxRecDepth 100000 in
theorem zLabs_ok : ∀ e ∈ zLabs, zpabs e := zLabs_0_ok
def zpX (e : Nat × Nat) : Prop := Cond.methodLink (zRn e.1) e.2 ⟨"java/lang/String", "indexOf", "(I)I"⟩ ∈ lw_tbl
def zLX_0 : List (Nat × Nat) := [(2, 143)]
set_option maxRecDepth 100000 in
theorem zLX_0_ok : ∀ e ∈ zLX_0, zpX e := List.forall_mem_cons.mpr ⟨List.mem_of_getElem? (i := 900) rfl, fun _ h => absurd h List.not_mem_nil⟩
def zLX : List (Nat × Nat) := zLX_0
set_option maxRecDepth 100000 in
theorem zLX_ok : ∀ e ∈ zLX, zpX e := zLX_0_ok
def zpI (e : Nat × Nat × Int32) : Prop := Cond.constant (zRn e.1) e.2.1 e.2.2 ∈ lw_tbl
def zLI_0 : List (Nat × Nat × Int32) := [(11, 409, -9999999), (11, 410, 9999999), (11, 73, -1000000001), (11, 78, -1000000003), (11, 89, 99999), (3, 35, -1000000005), (3, 48, 99999), (11, 125, -1000000011), (11, 159, -1000000002), (8, 35, -1000000005), (10, 148, -1000000005), (5, 66, -1000000005), (0, 24, -9999999), (0, 25, 9999999), (1, 30, -1000000005), (11, 289, -1000000005)]
set_option maxRecDepth 100000 in
theorem zLI_0_ok : ∀ e ∈ zLI_0, zpI e := List.forall_mem_cons.mpr ⟨List.mem_of_getElem? (i := 654) rfl, List.forall_mem_cons.mpr ⟨List.mem_of_getElem? (i := 655) rfl, List.forall_mem_cons.mpr ⟨List.mem_of_getElem? (i := 659) rfl, List.forall_mem_cons.mpr ⟨List.mem_of_getElem? (i := 660) rfl, List.forall_mem_cons.mpr ⟨List.mem_of_getElem? (i := 669) rfl, List.forall_mem_cons.mpr ⟨List.mem_of_getElem? (i := 674) rfl, List.forall_mem_cons.mpr ⟨List.mem_of_getElem? (i := 675) rfl, List.forall_mem_cons.mpr ⟨List.mem_of_getElem? (i := 699) rfl, List.forall_mem_cons.mpr ⟨List.mem_of_getElem? (i := 718) rfl, List.forall_mem_cons.mpr ⟨List.mem_of_getElem? (i := 734) rfl, List.forall_mem_cons.mpr ⟨List.mem_of_getElem? (i := 788) rfl, List.forall_mem_cons.mpr ⟨List.mem_of_getElem? (i := 1069) rfl, List.forall_mem_cons.mpr ⟨List.mem_of_getElem? (i := 1130) rfl, List.forall_mem_cons.mpr ⟨List.mem_of_getElem? (i := 1131) rfl, List.forall_mem_cons.mpr ⟨List.mem_of_getElem? (i := 1172) rfl, List.forall_mem_cons.mpr ⟨List.mem_of_getElem? (i := 1222) rfl, fun _ h => absurd h List.not_mem_nil⟩⟩⟩⟩⟩⟩⟩⟩⟩⟩⟩⟩⟩⟩⟩⟩
def zLI_1 : List (Nat × Nat × Int32) := [(10, 238, -9999999), (10, 239, 9999999), (11, 364, -1000000004), (11, 392, -1000000014), (11, 393, -1000000013), (12, 78, -9999999), (12, 75, 9999999), (12, 92, -1000000001), (12, 93, -1000000003), (12, 94, 99999), (12, 98, -1000000011), (12, 79, -1000000005), (12, 110, -1000000002), (12, 362, -1000000004), (12, 369, -1000000014), (12, 370, -1000000013)]
set_option maxRecDepth 100000 in
theorem zLI_1_ok : ∀ e ∈ zLI_1, zpI e := List.forall_mem_cons.mpr ⟨List.mem_of_getElem? (i := 1232) rfl, List.forall_mem_cons.mpr ⟨List.mem_of_getElem? (i := 1233) rfl, List.forall_mem_cons.mpr ⟨List.mem_of_getElem? (i := 1318) rfl, List.forall_mem_cons.mpr ⟨List.mem_of_getElem? (i := 1372) rfl, List.forall_mem_cons.mpr ⟨List.mem_of_getElem? (i := 1377) rfl, List.forall_mem_cons.mpr ⟨List.mem_of_getElem? (i := 1528) rfl, List.forall_mem_cons.mpr ⟨List.mem_of_getElem? (i := 1529) rfl, List.forall_mem_cons.mpr ⟨List.mem_of_getElem? (i := 1533) rfl, List.forall_mem_cons.mpr ⟨List.mem_of_getElem? (i := 1534) rfl, List.forall_mem_cons.mpr ⟨List.mem_of_getElem? (i := 1539) rfl, List.forall_mem_cons.mpr ⟨List.mem_of_getElem? (i := 1556) rfl, List.forall_mem_cons.mpr ⟨List.mem_of_getElem? (i := 1567) rfl, List.forall_mem_cons.mpr ⟨List.mem_of_getElem? (i := 1579) rfl, List.forall_mem_cons.mpr ⟨List.mem_of_getElem? (i := 1899) rfl, List.forall_mem_cons.mpr ⟨List.mem_of_getElem? (i := 1924) rfl, List.forall_mem_cons.mpr ⟨List.mem_of_getElem? (i := 1929) rfl, fun _ h => absurd h List.not_mem_nil⟩⟩⟩⟩⟩⟩⟩⟩⟩⟩⟩⟩⟩⟩⟩⟩
def zLI : List (Nat × Nat × Int32) := zLI_0 ++ (zLI_1)
set_option maxRecDepth 100000 in
theorem zLI_ok : ∀ e ∈ zLI, zpI e := List.forall_mem_append.mpr ⟨zLI_0_ok, zLI_1_ok⟩
def zpJ (e : Nat × Nat × Int64) : Prop := Cond.constantLong (zRn e.1) e.2.1 e.2.2 ∈ lw_tbl
def zLJ_0 : List (Nat × Nat × Int64) := [(7, 25, 1000), (10, 236, 2), (12, 152, 27), (12, 154, 96), (12, 156, -1), (12, 73, 9999999), (12, 76, -9999999), (12, 301, 1000), (12, 336, 2)]
set_option maxRecDepth 100000 in
theorem zLJ_0_ok : ∀ e ∈ zLJ_0, zpJ e := List.forall_mem_cons.mpr ⟨List.mem_of_getElem? (i := 1195) rfl, List.forall_mem_cons.mpr ⟨List.mem_of_getElem? (i := 1231) rfl, List.forall_mem_cons.mpr ⟨List.mem_of_getElem? (i := 1663) rfl, List.forall_mem_cons.mpr ⟨List.mem_of_getElem? (i := 1664) rfl, List.forall_mem_cons.mpr ⟨List.mem_of_getElem? (i := 1665) rfl, List.forall_mem_cons.mpr ⟨List.mem_of_getElem? (i := 1775) rfl, List.forall_mem_cons.mpr ⟨List.mem_of_getElem? (i := 1776) rfl, List.forall_mem_cons.mpr ⟨List.mem_of_getElem? (i := 1825) rfl, List.forall_mem_cons.mpr ⟨List.mem_of_getElem? (i := 1850) rfl, fun _ h => absurd h List.not_mem_nil⟩⟩⟩⟩⟩⟩⟩⟩⟩
def zLJ : List (Nat × Nat × Int64) := zLJ_0
set_option maxRecDepth 100000 in
theorem zLJ_ok : ∀ e ∈ zLJ, zpJ e := zLJ_0_ok
def zpK (e : Nat × Nat × Nat) : Prop := Cond.classLink (zRn e.1) e.2.1 (zRn e.2.2) ∈ lw_tbl
def zLK_0 : List (Nat × Nat × Nat) := [(13, 7, 11), (11, 7, 10), (10, 9, 7), (10, 17, 3), (10, 23, 8), (10, 29, 1), (10, 35, 9), (10, 41, 4), (3, 9, 0), (8, 9, 0), (11, 34, 2), (11, 41, 5), (11, 48, 6), (6, 9, 4), (11, 55, 0), (13, 10, 12)]
set_option maxRecDepth 100000 in
theorem zLK_0_ok : ∀ e ∈ zLK_0, zpK e := List.forall_mem_cons.mpr ⟨List.mem_of_getElem? (i := 120) rfl, List.forall_mem_cons.mpr ⟨List.mem_of_getElem? (i := 128) rfl, List.forall_mem_cons.mpr ⟨List.mem_of_getElem? (i := 134) rfl, List.forall_mem_cons.mpr ⟨List.mem_of_getElem? (i := 136) rfl, List.forall_mem_cons.mpr ⟨List.mem_of_getElem? (i := 138) rfl, List.forall_mem_cons.mpr ⟨List.mem_of_getElem? (i := 140) rfl, List.forall_mem_cons.mpr ⟨List.mem_of_getElem? (i := 142) rfl, List.forall_mem_cons.mpr ⟨List.mem_of_getElem? (i := 144) rfl, List.forall_mem_cons.mpr ⟨List.mem_of_getElem? (i := 188) rfl, List.forall_mem_cons.mpr ⟨List.mem_of_getElem? (i := 280) rfl, List.forall_mem_cons.mpr ⟨List.mem_of_getElem? (i := 504) rfl, List.forall_mem_cons.mpr ⟨List.mem_of_getElem? (i := 542) rfl, List.forall_mem_cons.mpr ⟨List.mem_of_getElem? (i := 564) rfl, List.forall_mem_cons.mpr ⟨List.mem_of_getElem? (i := 570) rfl, List.forall_mem_cons.mpr ⟨List.mem_of_getElem? (i := 602) rfl, List.forall_mem_cons.mpr ⟨List.mem_of_getElem? (i := 1391) rfl, fun _ h => absurd h List.not_mem_nil⟩⟩⟩⟩⟩⟩⟩⟩⟩⟩⟩⟩⟩⟩⟩⟩
def zLK : List (Nat × Nat × Nat) := zLK_0
set_option maxRecDepth 100000 in
theorem zLK_ok : ∀ e ∈ zLK, zpK e := zLK_0_ok
def zpK2 (e : Nat × Nat) : Prop := Cond.classLink (zRn e.1) e.2 ("[" ++ (FieldType.array .short).toString) ∈ lw_tbl
def zLK2_0 : List (Nat × Nat) := [(11, 26)]
set_option maxRecDepth 100000 in
theorem zLK2_0_ok : ∀ e ∈ zLK2_0, zpK2 e := List.forall_mem_cons.mpr ⟨List.mem_of_getElem? (i := 502) rfl, fun _ h => absurd h List.not_mem_nil⟩
def zLK2 : List (Nat × Nat) := zLK2_0
set_option maxRecDepth 100000 in
theorem zLK2_ok : ∀ e ∈ zLK2, zpK2 e := zLK2_0_ok
def zst (j : Nat) : String := (["aim   burn  dock  free  dig   make  give  still shed  claim wait  until if    while else  ", "xyuvfwmtks"] : List String).getD j ""
def zpT (e : Nat × Nat × Nat) : Prop := Cond.stringRef (zRn e.1) e.2.1 (zst e.2.2) ∈ lw_tbl
def zLT_0 : List (Nat × Nat × Nat) := [(2, 76, 0), (2, 141, 1)]
set_option maxRecDepth 100000 in
theorem zLT_0_ok : ∀ e ∈ zLT_0, zpT e := List.forall_mem_cons.mpr ⟨List.mem_of_getElem? (i := 826) rfl, List.forall_mem_cons.mpr ⟨List.mem_of_getElem? (i := 899) rfl, fun _ h => absurd h List.not_mem_nil⟩⟩
def zLT : List (Nat × Nat × Nat) := zLT_0
set_option maxRecDepth 100000 in
theorem zLT_ok : ∀ e ∈ zLT, zpT e := zLT_0_ok
def zOkC (ci : Nat) : Prop := (∀ w ∈ u_ws (zRn ci) (zTf ci) (znf ci), w ∈ lw_tbl) ∧ (∀ k, k < znf ci → parseFieldDescriptor (zTf ci k).2.2.1 = some (zty ci k)) ∧ (∀ a, a < znf ci → ∀ b, b < znf ci → a ≠ b → (zTf ci a).2.1 ≠ (zTf ci b).2.1) ∧ Cond.instantiable (zRn ci) (znf ci) ∈ lw_tbl ∧ Cond.initialized (zRn ci) ∈ lw_tbl ∧ zcl[ci]? = some (zRn ci, zTf ci, znf ci) ∧ (∀ k, k < znf ci → (zfk ci k = 0 ∧ ((∃ n, zty ci k = .object n) ∨ ∃ t, zty ci k = .array t)) ∨ (zfk ci k = 1 ∧ zty ci k = .int) ∨ (zfk ci k = 2 ∧ zty ci k = .boolean)) ∧ (∀ k, k < znf ci → (zTf ci k).1 = zRn ci)
set_option maxRecDepth 100000 in
theorem zcw0 : ∀ w ∈ u_ws (zRn 0) (zTf 0) (znf 0), w ∈ lw_tbl := List.forall_mem_cons.mpr ⟨List.mem_of_getElem? (i := 212) rfl, List.forall_mem_cons.mpr ⟨List.mem_of_getElem? (i := 214) rfl, List.forall_mem_cons.mpr ⟨List.mem_of_getElem? (i := 216) rfl, List.forall_mem_cons.mpr ⟨List.mem_of_getElem? (i := 218) rfl, fun _ h => absurd h List.not_mem_nil⟩⟩⟩⟩
set_option maxRecDepth 100000 in
theorem zOkC0 : zOkC 0 := by
  refine ⟨zcw0, by decide +kernel, by decide +kernel, List.mem_of_getElem? (i := 189) rfl, List.mem_of_getElem? (i := 105) rfl, rfl, ?_, ?_⟩
  · intro k hk
    have hk : k < 4 := hk
    rcases (show k = 0 ∨ k = 1 ∨ k = 2 ∨ k = 3 by omega) with rfl | rfl | rfl | rfl
    · exact Or.inr (Or.inl ⟨rfl, rfl⟩)
    · exact Or.inr (Or.inl ⟨rfl, rfl⟩)
    · exact Or.inr (Or.inl ⟨rfl, rfl⟩)
    · exact Or.inr (Or.inl ⟨rfl, rfl⟩)
  · intro k hk
    have hk : k < 4 := hk
    rcases (show k = 0 ∨ k = 1 ∨ k = 2 ∨ k = 3 by omega) with rfl | rfl | rfl | rfl <;> rfl
set_option maxRecDepth 100000 in
theorem zcw1 : ∀ w ∈ u_ws (zRn 1) (zTf 1) (znf 1), w ∈ lw_tbl := List.forall_mem_cons.mpr ⟨List.mem_of_getElem? (i := 368) rfl, List.forall_mem_cons.mpr ⟨List.mem_of_getElem? (i := 370) rfl, List.forall_mem_cons.mpr ⟨List.mem_of_getElem? (i := 372) rfl, List.forall_mem_cons.mpr ⟨List.mem_of_getElem? (i := 374) rfl, List.forall_mem_cons.mpr ⟨List.mem_of_getElem? (i := 376) rfl, List.forall_mem_cons.mpr ⟨List.mem_of_getElem? (i := 378) rfl, List.forall_mem_cons.mpr ⟨List.mem_of_getElem? (i := 380) rfl, fun _ h => absurd h List.not_mem_nil⟩⟩⟩⟩⟩⟩⟩
set_option maxRecDepth 100000 in
theorem zOkC1 : zOkC 1 := by
  refine ⟨zcw1, by decide +kernel, by decide +kernel, List.mem_of_getElem? (i := 351) rfl, List.mem_of_getElem? (i := 107) rfl, rfl, ?_, ?_⟩
  · intro k hk
    have hk : k < 7 := hk
    rcases (show k = 0 ∨ k = 1 ∨ k = 2 ∨ k = 3 ∨ k = 4 ∨ k = 5 ∨ k = 6 by omega) with rfl | rfl | rfl | rfl | rfl | rfl | rfl
    · exact Or.inr (Or.inl ⟨rfl, rfl⟩)
    · exact Or.inr (Or.inl ⟨rfl, rfl⟩)
    · exact Or.inr (Or.inl ⟨rfl, rfl⟩)
    · exact Or.inr (Or.inl ⟨rfl, rfl⟩)
    · exact Or.inr (Or.inl ⟨rfl, rfl⟩)
    · exact Or.inr (Or.inl ⟨rfl, rfl⟩)
    · exact Or.inr (Or.inl ⟨rfl, rfl⟩)
  · intro k hk
    have hk : k < 7 := hk
    rcases (show k = 0 ∨ k = 1 ∨ k = 2 ∨ k = 3 ∨ k = 4 ∨ k = 5 ∨ k = 6 by omega) with rfl | rfl | rfl | rfl | rfl | rfl | rfl <;> rfl
set_option maxRecDepth 100000 in
theorem zcw2 : ∀ w ∈ u_ws (zRn 2) (zTf 2) (znf 2), w ∈ lw_tbl := List.forall_mem_cons.mpr ⟨List.mem_of_getElem? (i := 520) rfl, List.forall_mem_cons.mpr ⟨List.mem_of_getElem? (i := 522) rfl, List.forall_mem_cons.mpr ⟨List.mem_of_getElem? (i := 524) rfl, List.forall_mem_cons.mpr ⟨List.mem_of_getElem? (i := 526) rfl, List.forall_mem_cons.mpr ⟨List.mem_of_getElem? (i := 528) rfl, List.forall_mem_cons.mpr ⟨List.mem_of_getElem? (i := 530) rfl, List.forall_mem_cons.mpr ⟨List.mem_of_getElem? (i := 532) rfl, List.forall_mem_cons.mpr ⟨List.mem_of_getElem? (i := 534) rfl, List.forall_mem_cons.mpr ⟨List.mem_of_getElem? (i := 536) rfl, List.forall_mem_cons.mpr ⟨List.mem_of_getElem? (i := 538) rfl, fun _ h => absurd h List.not_mem_nil⟩⟩⟩⟩⟩⟩⟩⟩⟩⟩
set_option maxRecDepth 100000 in
theorem zOkC2 : zOkC 2 := by
  refine ⟨zcw2, by decide +kernel, by decide +kernel, List.mem_of_getElem? (i := 505) rfl, List.mem_of_getElem? (i := 109) rfl, rfl, ?_, ?_⟩
  · intro k hk
    have hk : k < 10 := hk
    rcases (show k = 0 ∨ k = 1 ∨ k = 2 ∨ k = 3 ∨ k = 4 ∨ k = 5 ∨ k = 6 ∨ k = 7 ∨ k = 8 ∨ k = 9 by omega) with rfl | rfl | rfl | rfl | rfl | rfl | rfl | rfl | rfl | rfl
    · exact Or.inl ⟨rfl, Or.inr ⟨_, rfl⟩⟩
    · exact Or.inr (Or.inl ⟨rfl, rfl⟩)
    · exact Or.inl ⟨rfl, Or.inl ⟨_, rfl⟩⟩
    · exact Or.inr (Or.inl ⟨rfl, rfl⟩)
    · exact Or.inr (Or.inl ⟨rfl, rfl⟩)
    · exact Or.inr (Or.inl ⟨rfl, rfl⟩)
    · exact Or.inr (Or.inl ⟨rfl, rfl⟩)
    · exact Or.inr (Or.inl ⟨rfl, rfl⟩)
    · exact Or.inr (Or.inl ⟨rfl, rfl⟩)
    · exact Or.inr (Or.inl ⟨rfl, rfl⟩)
  · intro k hk
    have hk : k < 10 := hk
    rcases (show k = 0 ∨ k = 1 ∨ k = 2 ∨ k = 3 ∨ k = 4 ∨ k = 5 ∨ k = 6 ∨ k = 7 ∨ k = 8 ∨ k = 9 by omega) with rfl | rfl | rfl | rfl | rfl | rfl | rfl | rfl | rfl | rfl <;> rfl
set_option maxRecDepth 100000 in
theorem zcw3 : ∀ w ∈ u_ws (zRn 3) (zTf 3) (znf 3), w ∈ lw_tbl := List.forall_mem_cons.mpr ⟨List.mem_of_getElem? (i := 252) rfl, List.forall_mem_cons.mpr ⟨List.mem_of_getElem? (i := 254) rfl, List.forall_mem_cons.mpr ⟨List.mem_of_getElem? (i := 256) rfl, List.forall_mem_cons.mpr ⟨List.mem_of_getElem? (i := 258) rfl, List.forall_mem_cons.mpr ⟨List.mem_of_getElem? (i := 260) rfl, List.forall_mem_cons.mpr ⟨List.mem_of_getElem? (i := 262) rfl, List.forall_mem_cons.mpr ⟨List.mem_of_getElem? (i := 264) rfl, List.forall_mem_cons.mpr ⟨List.mem_of_getElem? (i := 266) rfl, List.forall_mem_cons.mpr ⟨List.mem_of_getElem? (i := 268) rfl, List.forall_mem_cons.mpr ⟨List.mem_of_getElem? (i := 270) rfl, List.forall_mem_cons.mpr ⟨List.mem_of_getElem? (i := 272) rfl, fun _ h => absurd h List.not_mem_nil⟩⟩⟩⟩⟩⟩⟩⟩⟩⟩⟩
set_option maxRecDepth 100000 in
theorem zOkC3 : zOkC 3 := by
  refine ⟨zcw3, by decide +kernel, by decide +kernel, List.mem_of_getElem? (i := 183) rfl, List.mem_of_getElem? (i := 104) rfl, rfl, ?_, ?_⟩
  · intro k hk
    have hk : k < 11 := hk
    rcases (show k = 0 ∨ k = 1 ∨ k = 2 ∨ k = 3 ∨ k = 4 ∨ k = 5 ∨ k = 6 ∨ k = 7 ∨ k = 8 ∨ k = 9 ∨ k = 10 by omega) with rfl | rfl | rfl | rfl | rfl | rfl | rfl | rfl | rfl | rfl | rfl
    · exact Or.inl ⟨rfl, Or.inl ⟨_, rfl⟩⟩
    · exact Or.inl ⟨rfl, Or.inr ⟨_, rfl⟩⟩
    · exact Or.inr (Or.inl ⟨rfl, rfl⟩)
    · exact Or.inr (Or.inl ⟨rfl, rfl⟩)
    · exact Or.inr (Or.inl ⟨rfl, rfl⟩)
    · exact Or.inr (Or.inl ⟨rfl, rfl⟩)
    · exact Or.inr (Or.inl ⟨rfl, rfl⟩)
    · exact Or.inr (Or.inl ⟨rfl, rfl⟩)
    · exact Or.inr (Or.inl ⟨rfl, rfl⟩)
    · exact Or.inr (Or.inl ⟨rfl, rfl⟩)
    · exact Or.inr (Or.inl ⟨rfl, rfl⟩)
  · intro k hk
    have hk : k < 11 := hk
    rcases (show k = 0 ∨ k = 1 ∨ k = 2 ∨ k = 3 ∨ k = 4 ∨ k = 5 ∨ k = 6 ∨ k = 7 ∨ k = 8 ∨ k = 9 ∨ k = 10 by omega) with rfl | rfl | rfl | rfl | rfl | rfl | rfl | rfl | rfl | rfl | rfl <;> rfl
set_option maxRecDepth 100000 in
theorem zcw4 : ∀ w ∈ u_ws (zRn 4) (zTf 4) (znf 4), w ∈ lw_tbl := List.forall_mem_cons.mpr ⟨List.mem_of_getElem? (i := 155) rfl, List.forall_mem_cons.mpr ⟨List.mem_of_getElem? (i := 157) rfl, List.forall_mem_cons.mpr ⟨List.mem_of_getElem? (i := 159) rfl, List.forall_mem_cons.mpr ⟨List.mem_of_getElem? (i := 161) rfl, fun _ h => absurd h List.not_mem_nil⟩⟩⟩⟩
set_option maxRecDepth 100000 in
theorem zOkC4 : zOkC 4 := by
  refine ⟨zcw4, by decide +kernel, by decide +kernel, List.mem_of_getElem? (i := 146) rfl, List.mem_of_getElem? (i := 102) rfl, rfl, ?_, ?_⟩
  · intro k hk
    have hk : k < 4 := hk
    rcases (show k = 0 ∨ k = 1 ∨ k = 2 ∨ k = 3 by omega) with rfl | rfl | rfl | rfl
    · exact Or.inr (Or.inl ⟨rfl, rfl⟩)
    · exact Or.inr (Or.inl ⟨rfl, rfl⟩)
    · exact Or.inl ⟨rfl, Or.inr ⟨_, rfl⟩⟩
    · exact Or.inr (Or.inl ⟨rfl, rfl⟩)
  · intro k hk
    have hk : k < 4 := hk
    rcases (show k = 0 ∨ k = 1 ∨ k = 2 ∨ k = 3 by omega) with rfl | rfl | rfl | rfl <;> rfl
set_option maxRecDepth 100000 in
theorem zcw5 : ∀ w ∈ u_ws (zRn 5) (zTf 5) (znf 5), w ∈ lw_tbl := List.forall_mem_cons.mpr ⟨List.mem_of_getElem? (i := 553) rfl, List.forall_mem_cons.mpr ⟨List.mem_of_getElem? (i := 555) rfl, List.forall_mem_cons.mpr ⟨List.mem_of_getElem? (i := 557) rfl, List.forall_mem_cons.mpr ⟨List.mem_of_getElem? (i := 559) rfl, List.forall_mem_cons.mpr ⟨List.mem_of_getElem? (i := 561) rfl, fun _ h => absurd h List.not_mem_nil⟩⟩⟩⟩⟩
set_option maxRecDepth 100000 in
theorem zOkC5 : zOkC 5 := by
  refine ⟨zcw5, by decide +kernel, by decide +kernel, List.mem_of_getElem? (i := 543) rfl, List.mem_of_getElem? (i := 110) rfl, rfl, ?_, ?_⟩
  · intro k hk
    have hk : k < 5 := hk
    rcases (show k = 0 ∨ k = 1 ∨ k = 2 ∨ k = 3 ∨ k = 4 by omega) with rfl | rfl | rfl | rfl | rfl
    · exact Or.inl ⟨rfl, Or.inr ⟨_, rfl⟩⟩
    · exact Or.inr (Or.inl ⟨rfl, rfl⟩)
    · exact Or.inl ⟨rfl, Or.inl ⟨_, rfl⟩⟩
    · exact Or.inl ⟨rfl, Or.inl ⟨_, rfl⟩⟩
    · exact Or.inr (Or.inl ⟨rfl, rfl⟩)
  · intro k hk
    have hk : k < 5 := hk
    rcases (show k = 0 ∨ k = 1 ∨ k = 2 ∨ k = 3 ∨ k = 4 by omega) with rfl | rfl | rfl | rfl | rfl <;> rfl
set_option maxRecDepth 100000 in
theorem zcw6 : ∀ w ∈ u_ws (zRn 6) (zTf 6) (znf 6), w ∈ lw_tbl := List.forall_mem_cons.mpr ⟨List.mem_of_getElem? (i := 583) rfl, List.forall_mem_cons.mpr ⟨List.mem_of_getElem? (i := 585) rfl, List.forall_mem_cons.mpr ⟨List.mem_of_getElem? (i := 587) rfl, List.forall_mem_cons.mpr ⟨List.mem_of_getElem? (i := 589) rfl, List.forall_mem_cons.mpr ⟨List.mem_of_getElem? (i := 591) rfl, List.forall_mem_cons.mpr ⟨List.mem_of_getElem? (i := 593) rfl, List.forall_mem_cons.mpr ⟨List.mem_of_getElem? (i := 595) rfl, List.forall_mem_cons.mpr ⟨List.mem_of_getElem? (i := 597) rfl, List.forall_mem_cons.mpr ⟨List.mem_of_getElem? (i := 599) rfl, fun _ h => absurd h List.not_mem_nil⟩⟩⟩⟩⟩⟩⟩⟩⟩
set_option maxRecDepth 100000 in
theorem zOkC6 : zOkC 6 := by
  refine ⟨zcw6, by decide +kernel, by decide +kernel, List.mem_of_getElem? (i := 565) rfl, List.mem_of_getElem? (i := 111) rfl, rfl, ?_, ?_⟩
  · intro k hk
    have hk : k < 9 := hk
    rcases (show k = 0 ∨ k = 1 ∨ k = 2 ∨ k = 3 ∨ k = 4 ∨ k = 5 ∨ k = 6 ∨ k = 7 ∨ k = 8 by omega) with rfl | rfl | rfl | rfl | rfl | rfl | rfl | rfl | rfl
    · exact Or.inl ⟨rfl, Or.inl ⟨_, rfl⟩⟩
    · exact Or.inl ⟨rfl, Or.inl ⟨_, rfl⟩⟩
    · exact Or.inr (Or.inl ⟨rfl, rfl⟩)
    · exact Or.inr (Or.inl ⟨rfl, rfl⟩)
    · exact Or.inl ⟨rfl, Or.inl ⟨_, rfl⟩⟩
    · exact Or.inr (Or.inl ⟨rfl, rfl⟩)
    · exact Or.inr (Or.inl ⟨rfl, rfl⟩)
    · exact Or.inr (Or.inr ⟨rfl, rfl⟩)
    · exact Or.inr (Or.inl ⟨rfl, rfl⟩)
  · intro k hk
    have hk : k < 9 := hk
    rcases (show k = 0 ∨ k = 1 ∨ k = 2 ∨ k = 3 ∨ k = 4 ∨ k = 5 ∨ k = 6 ∨ k = 7 ∨ k = 8 by omega) with rfl | rfl | rfl | rfl | rfl | rfl | rfl | rfl | rfl <;> rfl
set_option maxRecDepth 100000 in
theorem zcw7 : ∀ w ∈ u_ws (zRn 7) (zTf 7) (znf 7), w ∈ lw_tbl := List.forall_mem_cons.mpr ⟨List.mem_of_getElem? (i := 176) rfl, List.forall_mem_cons.mpr ⟨List.mem_of_getElem? (i := 178) rfl, List.forall_mem_cons.mpr ⟨List.mem_of_getElem? (i := 180) rfl, fun _ h => absurd h List.not_mem_nil⟩⟩⟩
set_option maxRecDepth 100000 in
theorem zOkC7 : zOkC 7 := by
  refine ⟨zcw7, by decide +kernel, by decide +kernel, List.mem_of_getElem? (i := 165) rfl, List.mem_of_getElem? (i := 103) rfl, rfl, ?_, ?_⟩
  · intro k hk
    have hk : k < 3 := hk
    rcases (show k = 0 ∨ k = 1 ∨ k = 2 by omega) with rfl | rfl | rfl
    · exact Or.inr (Or.inl ⟨rfl, rfl⟩)
    · exact Or.inr (Or.inl ⟨rfl, rfl⟩)
    · exact Or.inr (Or.inl ⟨rfl, rfl⟩)
  · intro k hk
    have hk : k < 3 := hk
    rcases (show k = 0 ∨ k = 1 ∨ k = 2 by omega) with rfl | rfl | rfl <;> rfl
set_option maxRecDepth 100000 in
theorem zcw8 : ∀ w ∈ u_ws (zRn 8) (zTf 8) (znf 8), w ∈ lw_tbl := List.forall_mem_cons.mpr ⟨List.mem_of_getElem? (i := 324) rfl, List.forall_mem_cons.mpr ⟨List.mem_of_getElem? (i := 326) rfl, List.forall_mem_cons.mpr ⟨List.mem_of_getElem? (i := 328) rfl, List.forall_mem_cons.mpr ⟨List.mem_of_getElem? (i := 330) rfl, List.forall_mem_cons.mpr ⟨List.mem_of_getElem? (i := 332) rfl, List.forall_mem_cons.mpr ⟨List.mem_of_getElem? (i := 334) rfl, List.forall_mem_cons.mpr ⟨List.mem_of_getElem? (i := 336) rfl, List.forall_mem_cons.mpr ⟨List.mem_of_getElem? (i := 338) rfl, List.forall_mem_cons.mpr ⟨List.mem_of_getElem? (i := 340) rfl, List.forall_mem_cons.mpr ⟨List.mem_of_getElem? (i := 342) rfl, List.forall_mem_cons.mpr ⟨List.mem_of_getElem? (i := 344) rfl, List.forall_mem_cons.mpr ⟨List.mem_of_getElem? (i := 346) rfl, List.forall_mem_cons.mpr ⟨List.mem_of_getElem? (i := 348) rfl, fun _ h => absurd h List.not_mem_nil⟩⟩⟩⟩⟩⟩⟩⟩⟩⟩⟩⟩⟩
set_option maxRecDepth 100000 in
theorem zOkC8 : zOkC 8 := by
  refine ⟨zcw8, by decide +kernel, by decide +kernel, List.mem_of_getElem? (i := 275) rfl, List.mem_of_getElem? (i := 106) rfl, rfl, ?_, ?_⟩
  · intro k hk
    have hk : k < 13 := hk
    rcases (show k = 0 ∨ k = 1 ∨ k = 2 ∨ k = 3 ∨ k = 4 ∨ k = 5 ∨ k = 6 ∨ k = 7 ∨ k = 8 ∨ k = 9 ∨ k = 10 ∨ k = 11 ∨ k = 12 by omega) with rfl | rfl | rfl | rfl | rfl | rfl | rfl | rfl | rfl | rfl | rfl | rfl | rfl
    · exact Or.inl ⟨rfl, Or.inl ⟨_, rfl⟩⟩
    · exact Or.inl ⟨rfl, Or.inr ⟨_, rfl⟩⟩
    · exact Or.inl ⟨rfl, Or.inr ⟨_, rfl⟩⟩
    · exact Or.inr (Or.inl ⟨rfl, rfl⟩)
    · exact Or.inr (Or.inl ⟨rfl, rfl⟩)
    · exact Or.inr (Or.inl ⟨rfl, rfl⟩)
    · exact Or.inr (Or.inl ⟨rfl, rfl⟩)
    · exact Or.inr (Or.inl ⟨rfl, rfl⟩)
    · exact Or.inr (Or.inl ⟨rfl, rfl⟩)
    · exact Or.inr (Or.inl ⟨rfl, rfl⟩)
    · exact Or.inr (Or.inl ⟨rfl, rfl⟩)
    · exact Or.inr (Or.inl ⟨rfl, rfl⟩)
    · exact Or.inr (Or.inr ⟨rfl, rfl⟩)
  · intro k hk
    have hk : k < 13 := hk
    rcases (show k = 0 ∨ k = 1 ∨ k = 2 ∨ k = 3 ∨ k = 4 ∨ k = 5 ∨ k = 6 ∨ k = 7 ∨ k = 8 ∨ k = 9 ∨ k = 10 ∨ k = 11 ∨ k = 12 by omega) with rfl | rfl | rfl | rfl | rfl | rfl | rfl | rfl | rfl | rfl | rfl | rfl | rfl <;> rfl
set_option maxRecDepth 100000 in
theorem zcw9 : ∀ w ∈ u_ws (zRn 9) (zTf 9) (znf 9), w ∈ lw_tbl := List.forall_mem_cons.mpr ⟨List.mem_of_getElem? (i := 406) rfl, List.forall_mem_cons.mpr ⟨List.mem_of_getElem? (i := 408) rfl, List.forall_mem_cons.mpr ⟨List.mem_of_getElem? (i := 410) rfl, List.forall_mem_cons.mpr ⟨List.mem_of_getElem? (i := 412) rfl, List.forall_mem_cons.mpr ⟨List.mem_of_getElem? (i := 414) rfl, List.forall_mem_cons.mpr ⟨List.mem_of_getElem? (i := 416) rfl, fun _ h => absurd h List.not_mem_nil⟩⟩⟩⟩⟩⟩
set_option maxRecDepth 100000 in
theorem zOkC9 : zOkC 9 := by
  refine ⟨zcw9, by decide +kernel, by decide +kernel, List.mem_of_getElem? (i := 383) rfl, List.mem_of_getElem? (i := 108) rfl, rfl, ?_, ?_⟩
  · intro k hk
    have hk : k < 6 := hk
    rcases (show k = 0 ∨ k = 1 ∨ k = 2 ∨ k = 3 ∨ k = 4 ∨ k = 5 by omega) with rfl | rfl | rfl | rfl | rfl | rfl
    · exact Or.inr (Or.inl ⟨rfl, rfl⟩)
    · exact Or.inr (Or.inl ⟨rfl, rfl⟩)
    · exact Or.inr (Or.inl ⟨rfl, rfl⟩)
    · exact Or.inr (Or.inl ⟨rfl, rfl⟩)
    · exact Or.inr (Or.inl ⟨rfl, rfl⟩)
    · exact Or.inr (Or.inl ⟨rfl, rfl⟩)
  · intro k hk
    have hk : k < 6 := hk
    rcases (show k = 0 ∨ k = 1 ∨ k = 2 ∨ k = 3 ∨ k = 4 ∨ k = 5 by omega) with rfl | rfl | rfl | rfl | rfl | rfl <;> rfl
set_option maxRecDepth 100000 in
theorem zcw10 : ∀ w ∈ u_ws (zRn 10) (zTf 10) (znf 10), w ∈ lw_tbl := List.forall_mem_cons.mpr ⟨List.mem_of_getElem? (i := 465) rfl, List.forall_mem_cons.mpr ⟨List.mem_of_getElem? (i := 467) rfl, List.forall_mem_cons.mpr ⟨List.mem_of_getElem? (i := 469) rfl, List.forall_mem_cons.mpr ⟨List.mem_of_getElem? (i := 471) rfl, List.forall_mem_cons.mpr ⟨List.mem_of_getElem? (i := 473) rfl, List.forall_mem_cons.mpr ⟨List.mem_of_getElem? (i := 475) rfl, List.forall_mem_cons.mpr ⟨List.mem_of_getElem? (i := 477) rfl, List.forall_mem_cons.mpr ⟨List.mem_of_getElem? (i := 479) rfl, List.forall_mem_cons.mpr ⟨List.mem_of_getElem? (i := 481) rfl, List.forall_mem_cons.mpr ⟨List.mem_of_getElem? (i := 483) rfl, List.forall_mem_cons.mpr ⟨List.mem_of_getElem? (i := 485) rfl, List.forall_mem_cons.mpr ⟨List.mem_of_getElem? (i := 487) rfl, List.forall_mem_cons.mpr ⟨List.mem_of_getElem? (i := 489) rfl, List.forall_mem_cons.mpr ⟨List.mem_of_getElem? (i := 491) rfl, List.forall_mem_cons.mpr ⟨List.mem_of_getElem? (i := 493) rfl, List.forall_mem_cons.mpr ⟨List.mem_of_getElem? (i := 495) rfl, List.forall_mem_cons.mpr ⟨List.mem_of_getElem? (i := 497) rfl, List.forall_mem_cons.mpr ⟨List.mem_of_getElem? (i := 499) rfl, fun _ h => absurd h List.not_mem_nil⟩⟩⟩⟩⟩⟩⟩⟩⟩⟩⟩⟩⟩⟩⟩⟩⟩⟩
set_option maxRecDepth 100000 in
theorem zOkC10 : zOkC 10 := by
  refine ⟨zcw10, by decide +kernel, by decide +kernel, List.mem_of_getElem? (i := 129) rfl, List.mem_of_getElem? (i := 101) rfl, rfl, ?_, ?_⟩
  · intro k hk
    have hk : k < 18 := hk
    rcases (show k = 0 ∨ k = 1 ∨ k = 2 ∨ k = 3 ∨ k = 4 ∨ k = 5 ∨ k = 6 ∨ k = 7 ∨ k = 8 ∨ k = 9 ∨ k = 10 ∨ k = 11 ∨ k = 12 ∨ k = 13 ∨ k = 14 ∨ k = 15 ∨ k = 16 ∨ k = 17 by omega) with rfl | rfl | rfl | rfl | rfl | rfl | rfl | rfl | rfl | rfl | rfl | rfl | rfl | rfl | rfl | rfl | rfl | rfl
    · exact Or.inl ⟨rfl, Or.inr ⟨_, rfl⟩⟩
    · exact Or.inl ⟨rfl, Or.inr ⟨_, rfl⟩⟩
    · exact Or.inl ⟨rfl, Or.inr ⟨_, rfl⟩⟩
    · exact Or.inl ⟨rfl, Or.inr ⟨_, rfl⟩⟩
    · exact Or.inl ⟨rfl, Or.inr ⟨_, rfl⟩⟩
    · exact Or.inr (Or.inl ⟨rfl, rfl⟩)
    · exact Or.inr (Or.inl ⟨rfl, rfl⟩)
    · exact Or.inr (Or.inl ⟨rfl, rfl⟩)
    · exact Or.inr (Or.inl ⟨rfl, rfl⟩)
    · exact Or.inr (Or.inl ⟨rfl, rfl⟩)
    · exact Or.inl ⟨rfl, Or.inr ⟨_, rfl⟩⟩
    · exact Or.inl ⟨rfl, Or.inl ⟨_, rfl⟩⟩
    · exact Or.inl ⟨rfl, Or.inl ⟨_, rfl⟩⟩
    · exact Or.inl ⟨rfl, Or.inl ⟨_, rfl⟩⟩
    · exact Or.inl ⟨rfl, Or.inl ⟨_, rfl⟩⟩
    · exact Or.inr (Or.inr ⟨rfl, rfl⟩)
    · exact Or.inl ⟨rfl, Or.inr ⟨_, rfl⟩⟩
    · exact Or.inr (Or.inl ⟨rfl, rfl⟩)
  · intro k hk
    have hk : k < 18 := hk
    rcases (show k = 0 ∨ k = 1 ∨ k = 2 ∨ k = 3 ∨ k = 4 ∨ k = 5 ∨ k = 6 ∨ k = 7 ∨ k = 8 ∨ k = 9 ∨ k = 10 ∨ k = 11 ∨ k = 12 ∨ k = 13 ∨ k = 14 ∨ k = 15 ∨ k = 16 ∨ k = 17 by omega) with rfl | rfl | rfl | rfl | rfl | rfl | rfl | rfl | rfl | rfl | rfl | rfl | rfl | rfl | rfl | rfl | rfl | rfl <;> rfl
set_option maxRecDepth 100000 in
theorem zcw11 : ∀ w ∈ u_ws (zRn 11) (zTf 11) (znf 11), w ∈ lw_tbl := List.forall_mem_cons.mpr ⟨List.mem_of_getElem? (i := 618) rfl, List.forall_mem_cons.mpr ⟨List.mem_of_getElem? (i := 620) rfl, List.forall_mem_cons.mpr ⟨List.mem_of_getElem? (i := 622) rfl, List.forall_mem_cons.mpr ⟨List.mem_of_getElem? (i := 624) rfl, List.forall_mem_cons.mpr ⟨List.mem_of_getElem? (i := 626) rfl, List.forall_mem_cons.mpr ⟨List.mem_of_getElem? (i := 628) rfl, List.forall_mem_cons.mpr ⟨List.mem_of_getElem? (i := 630) rfl, List.forall_mem_cons.mpr ⟨List.mem_of_getElem? (i := 632) rfl, List.forall_mem_cons.mpr ⟨List.mem_of_getElem? (i := 634) rfl, List.forall_mem_cons.mpr ⟨List.mem_of_getElem? (i := 636) rfl, List.forall_mem_cons.mpr ⟨List.mem_of_getElem? (i := 638) rfl, List.forall_mem_cons.mpr ⟨List.mem_of_getElem? (i := 640) rfl, List.forall_mem_cons.mpr ⟨List.mem_of_getElem? (i := 642) rfl, List.forall_mem_cons.mpr ⟨List.mem_of_getElem? (i := 644) rfl, fun _ h => absurd h List.not_mem_nil⟩⟩⟩⟩⟩⟩⟩⟩⟩⟩⟩⟩⟩⟩
set_option maxRecDepth 100000 in
theorem zOkC11 : zOkC 11 := by
  refine ⟨zcw11, by decide +kernel, by decide +kernel, List.mem_of_getElem? (i := 121) rfl, List.mem_of_getElem? (i := 100) rfl, rfl, ?_, ?_⟩
  · intro k hk
    have hk : k < 14 := hk
    rcases (show k = 0 ∨ k = 1 ∨ k = 2 ∨ k = 3 ∨ k = 4 ∨ k = 5 ∨ k = 6 ∨ k = 7 ∨ k = 8 ∨ k = 9 ∨ k = 10 ∨ k = 11 ∨ k = 12 ∨ k = 13 by omega) with rfl | rfl | rfl | rfl | rfl | rfl | rfl | rfl | rfl | rfl | rfl | rfl | rfl | rfl
    · exact Or.inl ⟨rfl, Or.inl ⟨_, rfl⟩⟩
    · exact Or.inl ⟨rfl, Or.inl ⟨_, rfl⟩⟩
    · exact Or.inr (Or.inr ⟨rfl, rfl⟩)
    · exact Or.inl ⟨rfl, Or.inr ⟨_, rfl⟩⟩
    · exact Or.inr (Or.inl ⟨rfl, rfl⟩)
    · exact Or.inl ⟨rfl, Or.inr ⟨_, rfl⟩⟩
    · exact Or.inr (Or.inl ⟨rfl, rfl⟩)
    · exact Or.inl ⟨rfl, Or.inr ⟨_, rfl⟩⟩
    · exact Or.inl ⟨rfl, Or.inr ⟨_, rfl⟩⟩
    · exact Or.inl ⟨rfl, Or.inl ⟨_, rfl⟩⟩
    · exact Or.inl ⟨rfl, Or.inl ⟨_, rfl⟩⟩
    · exact Or.inl ⟨rfl, Or.inl ⟨_, rfl⟩⟩
    · exact Or.inl ⟨rfl, Or.inl ⟨_, rfl⟩⟩
    · exact Or.inl ⟨rfl, Or.inl ⟨_, rfl⟩⟩
  · intro k hk
    have hk : k < 14 := hk
    rcases (show k = 0 ∨ k = 1 ∨ k = 2 ∨ k = 3 ∨ k = 4 ∨ k = 5 ∨ k = 6 ∨ k = 7 ∨ k = 8 ∨ k = 9 ∨ k = 10 ∨ k = 11 ∨ k = 12 ∨ k = 13 by omega) with rfl | rfl | rfl | rfl | rfl | rfl | rfl | rfl | rfl | rfl | rfl | rfl | rfl | rfl <;> rfl
set_option maxRecDepth 100000 in
theorem zcw12 : ∀ w ∈ u_ws (zRn 12) (zTf 12) (znf 12), w ∈ lw_tbl := List.forall_mem_cons.mpr ⟨List.mem_of_getElem? (i := 1438) rfl, List.forall_mem_cons.mpr ⟨List.mem_of_getElem? (i := 1440) rfl, List.forall_mem_cons.mpr ⟨List.mem_of_getElem? (i := 1442) rfl, List.forall_mem_cons.mpr ⟨List.mem_of_getElem? (i := 1444) rfl, List.forall_mem_cons.mpr ⟨List.mem_of_getElem? (i := 1446) rfl, List.forall_mem_cons.mpr ⟨List.mem_of_getElem? (i := 1448) rfl, List.forall_mem_cons.mpr ⟨List.mem_of_getElem? (i := 1450) rfl, List.forall_mem_cons.mpr ⟨List.mem_of_getElem? (i := 1452) rfl, List.forall_mem_cons.mpr ⟨List.mem_of_getElem? (i := 1454) rfl, List.forall_mem_cons.mpr ⟨List.mem_of_getElem? (i := 1456) rfl, List.forall_mem_cons.mpr ⟨List.mem_of_getElem? (i := 1458) rfl, List.forall_mem_cons.mpr ⟨List.mem_of_getElem? (i := 1460) rfl, List.forall_mem_cons.mpr ⟨List.mem_of_getElem? (i := 1462) rfl, List.forall_mem_cons.mpr ⟨List.mem_of_getElem? (i := 1464) rfl, List.forall_mem_cons.mpr ⟨List.mem_of_getElem? (i := 1466) rfl, List.forall_mem_cons.mpr ⟨List.mem_of_getElem? (i := 1468) rfl, List.forall_mem_cons.mpr ⟨List.mem_of_getElem? (i := 1470) rfl, List.forall_mem_cons.mpr ⟨List.mem_of_getElem? (i := 1472) rfl, List.forall_mem_cons.mpr ⟨List.mem_of_getElem? (i := 1474) rfl, List.forall_mem_cons.mpr ⟨List.mem_of_getElem? (i := 1476) rfl, List.forall_mem_cons.mpr ⟨List.mem_of_getElem? (i := 1478) rfl, List.forall_mem_cons.mpr ⟨List.mem_of_getElem? (i := 1480) rfl, List.forall_mem_cons.mpr ⟨List.mem_of_getElem? (i := 1482) rfl, List.forall_mem_cons.mpr ⟨List.mem_of_getElem? (i := 1484) rfl, List.forall_mem_cons.mpr ⟨List.mem_of_getElem? (i := 1486) rfl, List.forall_mem_cons.mpr ⟨List.mem_of_getElem? (i := 1488) rfl, List.forall_mem_cons.mpr ⟨List.mem_of_getElem? (i := 1490) rfl, List.forall_mem_cons.mpr ⟨List.mem_of_getElem? (i := 1492) rfl, List.forall_mem_cons.mpr ⟨List.mem_of_getElem? (i := 1494) rfl, List.forall_mem_cons.mpr ⟨List.mem_of_getElem? (i := 1496) rfl, List.forall_mem_cons.mpr ⟨List.mem_of_getElem? (i := 1498) rfl, List.forall_mem_cons.mpr ⟨List.mem_of_getElem? (i := 1500) rfl, List.forall_mem_cons.mpr ⟨List.mem_of_getElem? (i := 1502) rfl, List.forall_mem_cons.mpr ⟨List.mem_of_getElem? (i := 1504) rfl, List.forall_mem_cons.mpr ⟨List.mem_of_getElem? (i := 1506) rfl, List.forall_mem_cons.mpr ⟨List.mem_of_getElem? (i := 1508) rfl, List.forall_mem_cons.mpr ⟨List.mem_of_getElem? (i := 1510) rfl, List.forall_mem_cons.mpr ⟨List.mem_of_getElem? (i := 1512) rfl, List.forall_mem_cons.mpr ⟨List.mem_of_getElem? (i := 1514) rfl, List.forall_mem_cons.mpr ⟨List.mem_of_getElem? (i := 1516) rfl, List.forall_mem_cons.mpr ⟨List.mem_of_getElem? (i := 1518) rfl, fun _ h => absurd h List.not_mem_nil⟩⟩⟩⟩⟩⟩⟩⟩⟩⟩⟩⟩⟩⟩⟩⟩⟩⟩⟩⟩⟩⟩⟩⟩⟩⟩⟩⟩⟩⟩⟩⟩⟩⟩⟩⟩⟩⟩⟩⟩⟩
set_option maxRecDepth 100000 in
theorem zOkC12 : zOkC 12 := by
  refine ⟨zcw12, by decide +kernel, by decide +kernel, List.mem_of_getElem? (i := 1392) rfl, List.mem_of_getElem? (i := 112) rfl, rfl, ?_, ?_⟩
  · intro k hk
    have hk : k < 41 := hk
    rcases (show k = 0 ∨ k = 1 ∨ k = 2 ∨ k = 3 ∨ k = 4 ∨ k = 5 ∨ k = 6 ∨ k = 7 ∨ k = 8 ∨ k = 9 ∨ k = 10 ∨ k = 11 ∨ k = 12 ∨ k = 13 ∨ k = 14 ∨ k = 15 ∨ k = 16 ∨ k = 17 ∨ k = 18 ∨ k = 19 ∨ k = 20 ∨ k = 21 ∨ k = 22 ∨ k = 23 ∨ k = 24 ∨ k = 25 ∨ k = 26 ∨ k = 27 ∨ k = 28 ∨ k = 29 ∨ k = 30 ∨ k = 31 ∨ k = 32 ∨ k = 33 ∨ k = 34 ∨ k = 35 ∨ k = 36 ∨ k = 37 ∨ k = 38 ∨ k = 39 ∨ k = 40 by omega) with rfl | rfl | rfl | rfl | rfl | rfl | rfl | rfl | rfl | rfl | rfl | rfl | rfl | rfl | rfl | rfl | rfl | rfl | rfl | rfl | rfl | rfl | rfl | rfl | rfl | rfl | rfl | rfl | rfl | rfl | rfl | rfl | rfl | rfl | rfl | rfl | rfl | rfl | rfl | rfl | rfl
    · exact Or.inl ⟨rfl, Or.inr ⟨_, rfl⟩⟩
    · exact Or.inl ⟨rfl, Or.inr ⟨_, rfl⟩⟩
    · exact Or.inr (Or.inr ⟨rfl, rfl⟩)
    · exact Or.inl ⟨rfl, Or.inr ⟨_, rfl⟩⟩
    · exact Or.inr (Or.inl ⟨rfl, rfl⟩)
    · exact Or.inr (Or.inl ⟨rfl, rfl⟩)
    · exact Or.inr (Or.inl ⟨rfl, rfl⟩)
    · exact Or.inr (Or.inl ⟨rfl, rfl⟩)
    · exact Or.inr (Or.inl ⟨rfl, rfl⟩)
    · exact Or.inr (Or.inl ⟨rfl, rfl⟩)
    · exact Or.inr (Or.inr ⟨rfl, rfl⟩)
    · exact Or.inl ⟨rfl, Or.inr ⟨_, rfl⟩⟩
    · exact Or.inl ⟨rfl, Or.inr ⟨_, rfl⟩⟩
    · exact Or.inr (Or.inl ⟨rfl, rfl⟩)
    · exact Or.inr (Or.inl ⟨rfl, rfl⟩)
    · exact Or.inr (Or.inl ⟨rfl, rfl⟩)
    · exact Or.inl ⟨rfl, Or.inr ⟨_, rfl⟩⟩
    · exact Or.inl ⟨rfl, Or.inr ⟨_, rfl⟩⟩
    · exact Or.inr (Or.inl ⟨rfl, rfl⟩)
    · exact Or.inr (Or.inr ⟨rfl, rfl⟩)
    · exact Or.inl ⟨rfl, Or.inr ⟨_, rfl⟩⟩
    · exact Or.inr (Or.inl ⟨rfl, rfl⟩)
    · exact Or.inr (Or.inl ⟨rfl, rfl⟩)
    · exact Or.inr (Or.inl ⟨rfl, rfl⟩)
    · exact Or.inl ⟨rfl, Or.inr ⟨_, rfl⟩⟩
    · exact Or.inl ⟨rfl, Or.inr ⟨_, rfl⟩⟩
    · exact Or.inl ⟨rfl, Or.inr ⟨_, rfl⟩⟩
    · exact Or.inl ⟨rfl, Or.inr ⟨_, rfl⟩⟩
    · exact Or.inl ⟨rfl, Or.inr ⟨_, rfl⟩⟩
    · exact Or.inl ⟨rfl, Or.inr ⟨_, rfl⟩⟩
    · exact Or.inl ⟨rfl, Or.inr ⟨_, rfl⟩⟩
    · exact Or.inl ⟨rfl, Or.inr ⟨_, rfl⟩⟩
    · exact Or.inl ⟨rfl, Or.inr ⟨_, rfl⟩⟩
    · exact Or.inr (Or.inl ⟨rfl, rfl⟩)
    · exact Or.inr (Or.inl ⟨rfl, rfl⟩)
    · exact Or.inr (Or.inl ⟨rfl, rfl⟩)
    · exact Or.inl ⟨rfl, Or.inr ⟨_, rfl⟩⟩
    · exact Or.inr (Or.inl ⟨rfl, rfl⟩)
    · exact Or.inl ⟨rfl, Or.inr ⟨_, rfl⟩⟩
    · exact Or.inl ⟨rfl, Or.inr ⟨_, rfl⟩⟩
    · exact Or.inl ⟨rfl, Or.inr ⟨_, rfl⟩⟩
  · intro k hk
    have hk : k < 41 := hk
    rcases (show k = 0 ∨ k = 1 ∨ k = 2 ∨ k = 3 ∨ k = 4 ∨ k = 5 ∨ k = 6 ∨ k = 7 ∨ k = 8 ∨ k = 9 ∨ k = 10 ∨ k = 11 ∨ k = 12 ∨ k = 13 ∨ k = 14 ∨ k = 15 ∨ k = 16 ∨ k = 17 ∨ k = 18 ∨ k = 19 ∨ k = 20 ∨ k = 21 ∨ k = 22 ∨ k = 23 ∨ k = 24 ∨ k = 25 ∨ k = 26 ∨ k = 27 ∨ k = 28 ∨ k = 29 ∨ k = 30 ∨ k = 31 ∨ k = 32 ∨ k = 33 ∨ k = 34 ∨ k = 35 ∨ k = 36 ∨ k = 37 ∨ k = 38 ∨ k = 39 ∨ k = 40 by omega) with rfl | rfl | rfl | rfl | rfl | rfl | rfl | rfl | rfl | rfl | rfl | rfl | rfl | rfl | rfl | rfl | rfl | rfl | rfl | rfl | rfl | rfl | rfl | rfl | rfl | rfl | rfl | rfl | rfl | rfl | rfl | rfl | rfl | rfl | rfl | rfl | rfl | rfl | rfl | rfl | rfl <;> rfl
set_option maxRecDepth 100000 in
theorem zOkC_all : ∀ ci, ci < 13 → zOkC ci := by
  intro ci h
  rcases (show ci = 0 ∨ ci = 1 ∨ ci = 2 ∨ ci = 3 ∨ ci = 4 ∨ ci = 5 ∨ ci = 6 ∨ ci = 7 ∨ ci = 8 ∨ ci = 9 ∨ ci = 10 ∨ ci = 11 ∨ ci = 12 by omega) with rfl | rfl | rfl | rfl | rfl | rfl | rfl | rfl | rfl | rfl | rfl | rfl | rfl
  · exact zOkC0
  · exact zOkC1
  · exact zOkC2
  · exact zOkC3
  · exact zOkC4
  · exact zOkC5
  · exact zOkC6
  · exact zOkC7
  · exact zOkC8
  · exact zOkC9
  · exact zOkC10
  · exact zOkC11
  · exact zOkC12
def zown (y : Nat) : Nat := (zM y).2.2.2.2.1
def zkd (y : Nat) : Nat := (zM y).2.2.2.2.2.1
def znp (y : Nat) : Nat := (zM y).2.2.2.2.2.2
def zOkM (z : Nat) : Prop := Cond.code (zM z).1 (zM z).2.1 (zmL z) (zM z).2.2.2.1 ∈ lw_tbl ∧ Cond.initialized (zM z).1.cls ∈ lw_tbl ∧ plainName (zM z).1.cls = true ∧ ((zM z).1.cls ≠ "java/lang/invoke/MethodHandle" ∧ (zM z).1.cls ≠ "java/lang/invoke/VarHandle") ∧ (parseMethodDescriptor (zM z).1.desc).map (fun d => d.parameters.length) = some (znp z) ∧ zmL z ≤ 40 ∧ (zM z).1.cls = zRn (zown z) ∧
  ((zkd z = 0 ∧ Cond.static (zM z).1 ∈ lw_tbl) ∨ (zkd z = 1 ∧ zown z < 13 ∧ Cond.instanceMethod (zM z).1 ∈ lw_tbl ∧ Cond.selects (zM z).1.cls (zM z).1 (zM z).1 ∈ lw_tbl) ∨ (zkd z = 2 ∧ zown z < 13 ∧ Cond.instanceMethod (zM z).1 ∈ lw_tbl ∧ (zM z).1.name = "<init>"))
set_option maxRecDepth 100000 in
theorem zOkM0 : zOkM 0 := ⟨List.mem_of_getElem? (i := 192) rfl, List.mem_of_getElem? (i := 105) rfl, by decide +kernel, by decide +kernel, by decide +kernel, by decide, rfl, Or.inr (Or.inr ⟨rfl, by decide, List.mem_of_getElem? (i := 191) rfl, rfl⟩)⟩
set_option maxRecDepth 100000 in
theorem zOkM1 : zOkM 1 := ⟨List.mem_of_getElem? (i := 679) rfl, List.mem_of_getElem? (i := 105) rfl, by decide +kernel, by decide +kernel, by decide +kernel, by decide, rfl, Or.inr (Or.inl ⟨rfl, by decide, List.mem_of_getElem? (i := 677) rfl, List.mem_of_getElem? (i := 678) rfl⟩)⟩
set_option maxRecDepth 100000 in
theorem zOkM2 : zOkM 2 := ⟨List.mem_of_getElem? (i := 1013) rfl, List.mem_of_getElem? (i := 105) rfl, by decide +kernel, by decide +kernel, by decide +kernel, by decide, rfl, Or.inr (Or.inl ⟨rfl, by decide, List.mem_of_getElem? (i := 1011) rfl, List.mem_of_getElem? (i := 1012) rfl⟩)⟩
set_option maxRecDepth 100000 in
theorem zOkM3 : zOkM 3 := ⟨List.mem_of_getElem? (i := 1103) rfl, List.mem_of_getElem? (i := 105) rfl, by decide +kernel, by decide +kernel, by decide +kernel, by decide, rfl, Or.inr (Or.inl ⟨rfl, by decide, List.mem_of_getElem? (i := 1101) rfl, List.mem_of_getElem? (i := 1102) rfl⟩)⟩
set_option maxRecDepth 100000 in
theorem zOkM4 : zOkM 4 := ⟨List.mem_of_getElem? (i := 1129) rfl, List.mem_of_getElem? (i := 105) rfl, by decide +kernel, by decide +kernel, by decide +kernel, by decide, rfl, Or.inr (Or.inl ⟨rfl, by decide, List.mem_of_getElem? (i := 1127) rfl, List.mem_of_getElem? (i := 1128) rfl⟩)⟩
set_option maxRecDepth 100000 in
theorem zOkM5 : zOkM 5 := ⟨List.mem_of_getElem? (i := 1142) rfl, List.mem_of_getElem? (i := 105) rfl, by decide +kernel, by decide +kernel, by decide +kernel, by decide, rfl, Or.inr (Or.inl ⟨rfl, by decide, List.mem_of_getElem? (i := 1140) rfl, List.mem_of_getElem? (i := 1141) rfl⟩)⟩
set_option maxRecDepth 100000 in
theorem zOkM6 : zOkM 6 := ⟨List.mem_of_getElem? (i := 1200) rfl, List.mem_of_getElem? (i := 105) rfl, by decide +kernel, by decide +kernel, by decide +kernel, by decide, rfl, Or.inr (Or.inl ⟨rfl, by decide, List.mem_of_getElem? (i := 1198) rfl, List.mem_of_getElem? (i := 1199) rfl⟩)⟩
set_option maxRecDepth 100000 in
theorem zOkM7 : zOkM 7 := ⟨List.mem_of_getElem? (i := 354) rfl, List.mem_of_getElem? (i := 107) rfl, by decide +kernel, by decide +kernel, by decide +kernel, by decide, rfl, Or.inr (Or.inr ⟨rfl, by decide, List.mem_of_getElem? (i := 353) rfl, rfl⟩)⟩
set_option maxRecDepth 100000 in
theorem zOkM8 : zOkM 8 := ⟨List.mem_of_getElem? (i := 1171) rfl, List.mem_of_getElem? (i := 107) rfl, by decide +kernel, by decide +kernel, by decide +kernel, by decide, rfl, Or.inr (Or.inl ⟨rfl, by decide, List.mem_of_getElem? (i := 1169) rfl, List.mem_of_getElem? (i := 1170) rfl⟩)⟩
set_option maxRecDepth 100000 in
theorem zOkM9 : zOkM 9 := ⟨List.mem_of_getElem? (i := 1176) rfl, List.mem_of_getElem? (i := 107) rfl, by decide +kernel, by decide +kernel, by decide +kernel, by decide, rfl, Or.inr (Or.inl ⟨rfl, by decide, List.mem_of_getElem? (i := 1174) rfl, List.mem_of_getElem? (i := 1175) rfl⟩)⟩
set_option maxRecDepth 100000 in
theorem zOkM10 : zOkM 10 := ⟨List.mem_of_getElem? (i := 1257) rfl, List.mem_of_getElem? (i := 107) rfl, by decide +kernel, by decide +kernel, by decide +kernel, by decide, rfl, Or.inr (Or.inl ⟨rfl, by decide, List.mem_of_getElem? (i := 1255) rfl, List.mem_of_getElem? (i := 1256) rfl⟩)⟩
set_option maxRecDepth 100000 in
theorem zOkM11 : zOkM 11 := ⟨List.mem_of_getElem? (i := 1357) rfl, List.mem_of_getElem? (i := 107) rfl, by decide +kernel, by decide +kernel, by decide +kernel, by decide, rfl, Or.inr (Or.inl ⟨rfl, by decide, List.mem_of_getElem? (i := 1355) rfl, List.mem_of_getElem? (i := 1356) rfl⟩)⟩
set_option maxRecDepth 100000 in
theorem zOkM12 : zOkM 12 := ⟨List.mem_of_getElem? (i := 508) rfl, List.mem_of_getElem? (i := 109) rfl, by decide +kernel, by decide +kernel, by decide +kernel, by decide, rfl, Or.inr (Or.inr ⟨rfl, by decide, List.mem_of_getElem? (i := 507) rfl, rfl⟩)⟩
set_option maxRecDepth 100000 in
theorem zOkM13 : zOkM 13 := ⟨List.mem_of_getElem? (i := 792) rfl, List.mem_of_getElem? (i := 109) rfl, by decide +kernel, by decide +kernel, by decide +kernel, by decide, rfl, Or.inr (Or.inl ⟨rfl, by decide, List.mem_of_getElem? (i := 790) rfl, List.mem_of_getElem? (i := 791) rfl⟩)⟩
set_option maxRecDepth 100000 in
theorem zOkM14 : zOkM 14 := ⟨List.mem_of_getElem? (i := 801) rfl, List.mem_of_getElem? (i := 109) rfl, by decide +kernel, by decide +kernel, by decide +kernel, by decide, rfl, Or.inr (Or.inl ⟨rfl, by decide, List.mem_of_getElem? (i := 800) rfl, List.mem_of_getElem? (i := 1) rfl⟩)⟩
set_option maxRecDepth 100000 in
theorem zOkM15 : zOkM 15 := ⟨List.mem_of_getElem? (i := 805) rfl, List.mem_of_getElem? (i := 109) rfl, by decide +kernel, by decide +kernel, by decide +kernel, by decide, rfl, Or.inr (Or.inl ⟨rfl, by decide, List.mem_of_getElem? (i := 804) rfl, List.mem_of_getElem? (i := 2) rfl⟩)⟩
set_option maxRecDepth 100000 in
theorem zOkM16 : zOkM 16 := ⟨List.mem_of_getElem? (i := 809) rfl, List.mem_of_getElem? (i := 109) rfl, by decide +kernel, by decide +kernel, by decide +kernel, by decide, rfl, Or.inr (Or.inl ⟨rfl, by decide, List.mem_of_getElem? (i := 808) rfl, List.mem_of_getElem? (i := 3) rfl⟩)⟩
set_option maxRecDepth 100000 in
theorem zOkM17 : zOkM 17 := ⟨List.mem_of_getElem? (i := 813) rfl, List.mem_of_getElem? (i := 109) rfl, by decide +kernel, by decide +kernel, by decide +kernel, by decide, rfl, Or.inr (Or.inl ⟨rfl, by decide, List.mem_of_getElem? (i := 812) rfl, List.mem_of_getElem? (i := 4) rfl⟩)⟩
set_option maxRecDepth 100000 in
theorem zOkM18 : zOkM 18 := ⟨List.mem_of_getElem? (i := 817) rfl, List.mem_of_getElem? (i := 109) rfl, by decide +kernel, by decide +kernel, by decide +kernel, by decide, rfl, Or.inr (Or.inl ⟨rfl, by decide, List.mem_of_getElem? (i := 816) rfl, List.mem_of_getElem? (i := 5) rfl⟩)⟩
set_option maxRecDepth 100000 in
theorem zOkM19 : zOkM 19 := ⟨List.mem_of_getElem? (i := 821) rfl, List.mem_of_getElem? (i := 109) rfl, by decide +kernel, by decide +kernel, by decide +kernel, by decide, rfl, Or.inr (Or.inl ⟨rfl, by decide, List.mem_of_getElem? (i := 820) rfl, List.mem_of_getElem? (i := 6) rfl⟩)⟩
set_option maxRecDepth 100000 in
theorem zOkM20 : zOkM 20 := ⟨List.mem_of_getElem? (i := 825) rfl, List.mem_of_getElem? (i := 109) rfl, by decide +kernel, by decide +kernel, by decide +kernel, by decide, rfl, Or.inr (Or.inl ⟨rfl, by decide, List.mem_of_getElem? (i := 824) rfl, List.mem_of_getElem? (i := 7) rfl⟩)⟩
set_option maxRecDepth 100000 in
theorem zOkM21 : zOkM 21 := ⟨List.mem_of_getElem? (i := 870) rfl, List.mem_of_getElem? (i := 109) rfl, by decide +kernel, by decide +kernel, by decide +kernel, by decide, rfl, Or.inr (Or.inl ⟨rfl, by decide, List.mem_of_getElem? (i := 869) rfl, List.mem_of_getElem? (i := 8) rfl⟩)⟩
set_option maxRecDepth 100000 in
theorem zOkM22 : zOkM 22 := ⟨List.mem_of_getElem? (i := 874) rfl, List.mem_of_getElem? (i := 109) rfl, by decide +kernel, by decide +kernel, by decide +kernel, by decide, rfl, Or.inr (Or.inl ⟨rfl, by decide, List.mem_of_getElem? (i := 873) rfl, List.mem_of_getElem? (i := 9) rfl⟩)⟩
set_option maxRecDepth 100000 in
theorem zOkM23 : zOkM 23 := ⟨List.mem_of_getElem? (i := 878) rfl, List.mem_of_getElem? (i := 109) rfl, by decide +kernel, by decide +kernel, by decide +kernel, by decide, rfl, Or.inr (Or.inl ⟨rfl, by decide, List.mem_of_getElem? (i := 877) rfl, List.mem_of_getElem? (i := 10) rfl⟩)⟩
set_option maxRecDepth 100000 in
theorem zOkM24 : zOkM 24 := ⟨List.mem_of_getElem? (i := 890) rfl, List.mem_of_getElem? (i := 109) rfl, by decide +kernel, by decide +kernel, by decide +kernel, by decide, rfl, Or.inr (Or.inl ⟨rfl, by decide, List.mem_of_getElem? (i := 889) rfl, List.mem_of_getElem? (i := 11) rfl⟩)⟩
set_option maxRecDepth 100000 in
theorem zOkM25 : zOkM 25 := ⟨List.mem_of_getElem? (i := 894) rfl, List.mem_of_getElem? (i := 109) rfl, by decide +kernel, by decide +kernel, by decide +kernel, by decide, rfl, Or.inr (Or.inl ⟨rfl, by decide, List.mem_of_getElem? (i := 893) rfl, List.mem_of_getElem? (i := 12) rfl⟩)⟩
set_option maxRecDepth 100000 in
theorem zOkM26 : zOkM 26 := ⟨List.mem_of_getElem? (i := 898) rfl, List.mem_of_getElem? (i := 109) rfl, by decide +kernel, by decide +kernel, by decide +kernel, by decide, rfl, Or.inr (Or.inl ⟨rfl, by decide, List.mem_of_getElem? (i := 897) rfl, List.mem_of_getElem? (i := 13) rfl⟩)⟩
set_option maxRecDepth 100000 in
theorem zOkM27 : zOkM 27 := ⟨List.mem_of_getElem? (i := 965) rfl, List.mem_of_getElem? (i := 109) rfl, by decide +kernel, by decide +kernel, by decide +kernel, by decide, rfl, Or.inr (Or.inl ⟨rfl, by decide, List.mem_of_getElem? (i := 964) rfl, List.mem_of_getElem? (i := 14) rfl⟩)⟩
set_option maxRecDepth 100000 in
theorem zOkM28 : zOkM 28 := ⟨List.mem_of_getElem? (i := 969) rfl, List.mem_of_getElem? (i := 109) rfl, by decide +kernel, by decide +kernel, by decide +kernel, by decide, rfl, Or.inr (Or.inl ⟨rfl, by decide, List.mem_of_getElem? (i := 968) rfl, List.mem_of_getElem? (i := 15) rfl⟩)⟩
set_option maxRecDepth 100000 in
theorem zOkM29 : zOkM 29 := ⟨List.mem_of_getElem? (i := 973) rfl, List.mem_of_getElem? (i := 109) rfl, by decide +kernel, by decide +kernel, by decide +kernel, by decide, rfl, Or.inr (Or.inl ⟨rfl, by decide, List.mem_of_getElem? (i := 972) rfl, List.mem_of_getElem? (i := 16) rfl⟩)⟩
set_option maxRecDepth 100000 in
theorem zOkM30 : zOkM 30 := ⟨List.mem_of_getElem? (i := 977) rfl, List.mem_of_getElem? (i := 109) rfl, by decide +kernel, by decide +kernel, by decide +kernel, by decide, rfl, Or.inr (Or.inl ⟨rfl, by decide, List.mem_of_getElem? (i := 976) rfl, List.mem_of_getElem? (i := 17) rfl⟩)⟩
set_option maxRecDepth 100000 in
theorem zOkM31 : zOkM 31 := ⟨List.mem_of_getElem? (i := 981) rfl, List.mem_of_getElem? (i := 109) rfl, by decide +kernel, by decide +kernel, by decide +kernel, by decide, rfl, Or.inr (Or.inl ⟨rfl, by decide, List.mem_of_getElem? (i := 980) rfl, List.mem_of_getElem? (i := 18) rfl⟩)⟩
set_option maxRecDepth 100000 in
theorem zOkM32 : zOkM 32 := ⟨List.mem_of_getElem? (i := 985) rfl, List.mem_of_getElem? (i := 109) rfl, by decide +kernel, by decide +kernel, by decide +kernel, by decide, rfl, Or.inr (Or.inl ⟨rfl, by decide, List.mem_of_getElem? (i := 984) rfl, List.mem_of_getElem? (i := 19) rfl⟩)⟩
set_option maxRecDepth 100000 in
theorem zOkM33 : zOkM 33 := ⟨List.mem_of_getElem? (i := 989) rfl, List.mem_of_getElem? (i := 109) rfl, by decide +kernel, by decide +kernel, by decide +kernel, by decide, rfl, Or.inr (Or.inl ⟨rfl, by decide, List.mem_of_getElem? (i := 988) rfl, List.mem_of_getElem? (i := 20) rfl⟩)⟩
set_option maxRecDepth 100000 in
theorem zOkM34 : zOkM 34 := ⟨List.mem_of_getElem? (i := 997) rfl, List.mem_of_getElem? (i := 109) rfl, by decide +kernel, by decide +kernel, by decide +kernel, by decide, rfl, Or.inr (Or.inl ⟨rfl, by decide, List.mem_of_getElem? (i := 996) rfl, List.mem_of_getElem? (i := 21) rfl⟩)⟩
set_option maxRecDepth 100000 in
theorem zOkM35 : zOkM 35 := ⟨List.mem_of_getElem? (i := 186) rfl, List.mem_of_getElem? (i := 104) rfl, by decide +kernel, by decide +kernel, by decide +kernel, by decide, rfl, Or.inr (Or.inr ⟨rfl, by decide, List.mem_of_getElem? (i := 185) rfl, rfl⟩)⟩
set_option maxRecDepth 100000 in
theorem zOkM36 : zOkM 36 := ⟨List.mem_of_getElem? (i := 673) rfl, List.mem_of_getElem? (i := 104) rfl, by decide +kernel, by decide +kernel, by decide +kernel, by decide, rfl, Or.inr (Or.inl ⟨rfl, by decide, List.mem_of_getElem? (i := 671) rfl, List.mem_of_getElem? (i := 672) rfl⟩)⟩
set_option maxRecDepth 100000 in
theorem zOkM37 : zOkM 37 := ⟨List.mem_of_getElem? (i := 1125) rfl, List.mem_of_getElem? (i := 104) rfl, by decide +kernel, by decide +kernel, by decide +kernel, by decide, rfl, Or.inr (Or.inl ⟨rfl, by decide, List.mem_of_getElem? (i := 1123) rfl, List.mem_of_getElem? (i := 1124) rfl⟩)⟩
set_option maxRecDepth 100000 in
theorem zOkM38 : zOkM 38 := ⟨List.mem_of_getElem? (i := 1345) rfl, List.mem_of_getElem? (i := 104) rfl, by decide +kernel, by decide +kernel, by decide +kernel, by decide, rfl, Or.inr (Or.inl ⟨rfl, by decide, List.mem_of_getElem? (i := 1343) rfl, List.mem_of_getElem? (i := 1344) rfl⟩)⟩
set_option maxRecDepth 100000 in
theorem zOkM39 : zOkM 39 := ⟨List.mem_of_getElem? (i := 149) rfl, List.mem_of_getElem? (i := 102) rfl, by decide +kernel, by decide +kernel, by decide +kernel, by decide, rfl, Or.inr (Or.inr ⟨rfl, by decide, List.mem_of_getElem? (i := 148) rfl, rfl⟩)⟩
set_option maxRecDepth 100000 in
theorem zOkM40 : zOkM 40 := ⟨List.mem_of_getElem? (i := 797) rfl, List.mem_of_getElem? (i := 102) rfl, by decide +kernel, by decide +kernel, by decide +kernel, by decide, rfl, Or.inr (Or.inl ⟨rfl, by decide, List.mem_of_getElem? (i := 795) rfl, List.mem_of_getElem? (i := 796) rfl⟩)⟩
set_option maxRecDepth 100000 in
theorem zOkM41 : zOkM 41 := ⟨List.mem_of_getElem? (i := 882) rfl, List.mem_of_getElem? (i := 102) rfl, by decide +kernel, by decide +kernel, by decide +kernel, by decide, rfl, Or.inr (Or.inl ⟨rfl, by decide, List.mem_of_getElem? (i := 880) rfl, List.mem_of_getElem? (i := 881) rfl⟩)⟩
set_option maxRecDepth 100000 in
theorem zOkM42 : zOkM 42 := ⟨List.mem_of_getElem? (i := 886) rfl, List.mem_of_getElem? (i := 102) rfl, by decide +kernel, by decide +kernel, by decide +kernel, by decide, rfl, Or.inr (Or.inl ⟨rfl, by decide, List.mem_of_getElem? (i := 884) rfl, List.mem_of_getElem? (i := 885) rfl⟩)⟩
set_option maxRecDepth 100000 in
theorem zOkM43 : zOkM 43 := ⟨List.mem_of_getElem? (i := 993) rfl, List.mem_of_getElem? (i := 102) rfl, by decide +kernel, by decide +kernel, by decide +kernel, by decide, rfl, Or.inr (Or.inl ⟨rfl, by decide, List.mem_of_getElem? (i := 991) rfl, List.mem_of_getElem? (i := 992) rfl⟩)⟩
set_option maxRecDepth 100000 in
theorem zOkM44 : zOkM 44 := ⟨List.mem_of_getElem? (i := 1032) rfl, List.mem_of_getElem? (i := 102) rfl, by decide +kernel, by decide +kernel, by decide +kernel, by decide, rfl, Or.inr (Or.inl ⟨rfl, by decide, List.mem_of_getElem? (i := 1030) rfl, List.mem_of_getElem? (i := 1031) rfl⟩)⟩
set_option maxRecDepth 100000 in
theorem zOkM45 : zOkM 45 := ⟨List.mem_of_getElem? (i := 1042) rfl, List.mem_of_getElem? (i := 102) rfl, by decide +kernel, by decide +kernel, by decide +kernel, by decide, rfl, Or.inr (Or.inl ⟨rfl, by decide, List.mem_of_getElem? (i := 1040) rfl, List.mem_of_getElem? (i := 1041) rfl⟩)⟩
set_option maxRecDepth 100000 in
theorem zOkM46 : zOkM 46 := ⟨List.mem_of_getElem? (i := 1312) rfl, List.mem_of_getElem? (i := 102) rfl, by decide +kernel, by decide +kernel, by decide +kernel, by decide, rfl, Or.inr (Or.inl ⟨rfl, by decide, List.mem_of_getElem? (i := 1310) rfl, List.mem_of_getElem? (i := 1311) rfl⟩)⟩
set_option maxRecDepth 100000 in
theorem zOkM47 : zOkM 47 := ⟨List.mem_of_getElem? (i := 1317) rfl, List.mem_of_getElem? (i := 102) rfl, by decide +kernel, by decide +kernel, by decide +kernel, by decide, rfl, Or.inr (Or.inl ⟨rfl, by decide, List.mem_of_getElem? (i := 1315) rfl, List.mem_of_getElem? (i := 1316) rfl⟩)⟩
set_option maxRecDepth 100000 in
theorem zOkM48 : zOkM 48 := ⟨List.mem_of_getElem? (i := 546) rfl, List.mem_of_getElem? (i := 110) rfl, by decide +kernel, by decide +kernel, by decide +kernel, by decide, rfl, Or.inr (Or.inr ⟨rfl, by decide, List.mem_of_getElem? (i := 545) rfl, rfl⟩)⟩
set_option maxRecDepth 100000 in
theorem zOkM49 : zOkM 49 := ⟨List.mem_of_getElem? (i := 1057) rfl, List.mem_of_getElem? (i := 110) rfl, by decide +kernel, by decide +kernel, by decide +kernel, by decide, rfl, Or.inr (Or.inl ⟨rfl, by decide, List.mem_of_getElem? (i := 1055) rfl, List.mem_of_getElem? (i := 1056) rfl⟩)⟩
set_option maxRecDepth 100000 in
theorem zOkM50 : zOkM 50 := ⟨List.mem_of_getElem? (i := 1062) rfl, List.mem_of_getElem? (i := 110) rfl, by decide +kernel, by decide +kernel, by decide +kernel, by decide, rfl, Or.inr (Or.inl ⟨rfl, by decide, List.mem_of_getElem? (i := 1061) rfl, List.mem_of_getElem? (i := 25) rfl⟩)⟩
set_option maxRecDepth 100000 in
theorem zOkM51 : zOkM 51 := ⟨List.mem_of_getElem? (i := 1066) rfl, List.mem_of_getElem? (i := 110) rfl, by decide +kernel, by decide +kernel, by decide +kernel, by decide, rfl, Or.inl ⟨rfl, List.mem_of_getElem? (i := 1065) rfl⟩⟩
set_option maxRecDepth 100000 in
theorem zOkM52 : zOkM 52 := ⟨List.mem_of_getElem? (i := 1073) rfl, List.mem_of_getElem? (i := 110) rfl, by decide +kernel, by decide +kernel, by decide +kernel, by decide, rfl, Or.inr (Or.inl ⟨rfl, by decide, List.mem_of_getElem? (i := 1072) rfl, List.mem_of_getElem? (i := 26) rfl⟩)⟩
set_option maxRecDepth 100000 in
theorem zOkM53 : zOkM 53 := ⟨List.mem_of_getElem? (i := 1077) rfl, List.mem_of_getElem? (i := 110) rfl, by decide +kernel, by decide +kernel, by decide +kernel, by decide, rfl, Or.inr (Or.inl ⟨rfl, by decide, List.mem_of_getElem? (i := 1076) rfl, List.mem_of_getElem? (i := 27) rfl⟩)⟩
set_option maxRecDepth 100000 in
theorem zOkM54 : zOkM 54 := ⟨List.mem_of_getElem? (i := 1081) rfl, List.mem_of_getElem? (i := 110) rfl, by decide +kernel, by decide +kernel, by decide +kernel, by decide, rfl, Or.inr (Or.inl ⟨rfl, by decide, List.mem_of_getElem? (i := 1080) rfl, List.mem_of_getElem? (i := 28) rfl⟩)⟩
set_option maxRecDepth 100000 in
theorem zOkM55 : zOkM 55 := ⟨List.mem_of_getElem? (i := 1086) rfl, List.mem_of_getElem? (i := 110) rfl, by decide +kernel, by decide +kernel, by decide +kernel, by decide, rfl, Or.inr (Or.inl ⟨rfl, by decide, List.mem_of_getElem? (i := 1085) rfl, List.mem_of_getElem? (i := 29) rfl⟩)⟩
set_option maxRecDepth 100000 in
theorem zOkM56 : zOkM 56 := ⟨List.mem_of_getElem? (i := 1092) rfl, List.mem_of_getElem? (i := 110) rfl, by decide +kernel, by decide +kernel, by decide +kernel, by decide, rfl, Or.inr (Or.inl ⟨rfl, by decide, List.mem_of_getElem? (i := 1091) rfl, List.mem_of_getElem? (i := 30) rfl⟩)⟩
set_option maxRecDepth 100000 in
theorem zOkM57 : zOkM 57 := ⟨List.mem_of_getElem? (i := 1095) rfl, List.mem_of_getElem? (i := 110) rfl, by decide +kernel, by decide +kernel, by decide +kernel, by decide, rfl, Or.inl ⟨rfl, List.mem_of_getElem? (i := 1094) rfl⟩⟩
set_option maxRecDepth 100000 in
theorem zOkM58 : zOkM 58 := ⟨List.mem_of_getElem? (i := 1099) rfl, List.mem_of_getElem? (i := 110) rfl, by decide +kernel, by decide +kernel, by decide +kernel, by decide, rfl, Or.inr (Or.inl ⟨rfl, by decide, List.mem_of_getElem? (i := 1098) rfl, List.mem_of_getElem? (i := 31) rfl⟩)⟩
set_option maxRecDepth 100000 in
theorem zOkM59 : zOkM 59 := ⟨List.mem_of_getElem? (i := 1109) rfl, List.mem_of_getElem? (i := 110) rfl, by decide +kernel, by decide +kernel, by decide +kernel, by decide, rfl, Or.inr (Or.inl ⟨rfl, by decide, List.mem_of_getElem? (i := 1108) rfl, List.mem_of_getElem? (i := 32) rfl⟩)⟩
set_option maxRecDepth 100000 in
theorem zOkM60 : zOkM 60 := ⟨List.mem_of_getElem? (i := 1113) rfl, List.mem_of_getElem? (i := 110) rfl, by decide +kernel, by decide +kernel, by decide +kernel, by decide, rfl, Or.inr (Or.inl ⟨rfl, by decide, List.mem_of_getElem? (i := 1112) rfl, List.mem_of_getElem? (i := 33) rfl⟩)⟩
set_option maxRecDepth 100000 in
theorem zOkM61 : zOkM 61 := ⟨List.mem_of_getElem? (i := 1137) rfl, List.mem_of_getElem? (i := 110) rfl, by decide +kernel, by decide +kernel, by decide +kernel, by decide, rfl, Or.inr (Or.inl ⟨rfl, by decide, List.mem_of_getElem? (i := 1136) rfl, List.mem_of_getElem? (i := 34) rfl⟩)⟩
set_option maxRecDepth 100000 in
theorem zOkM62 : zOkM 62 := ⟨List.mem_of_getElem? (i := 1146) rfl, List.mem_of_getElem? (i := 110) rfl, by decide +kernel, by decide +kernel, by decide +kernel, by decide, rfl, Or.inr (Or.inl ⟨rfl, by decide, List.mem_of_getElem? (i := 1145) rfl, List.mem_of_getElem? (i := 35) rfl⟩)⟩
set_option maxRecDepth 100000 in
theorem zOkM63 : zOkM 63 := ⟨List.mem_of_getElem? (i := 1155) rfl, List.mem_of_getElem? (i := 110) rfl, by decide +kernel, by decide +kernel, by decide +kernel, by decide, rfl, Or.inr (Or.inl ⟨rfl, by decide, List.mem_of_getElem? (i := 1154) rfl, List.mem_of_getElem? (i := 36) rfl⟩)⟩
set_option maxRecDepth 100000 in
theorem zOkM64 : zOkM 64 := ⟨List.mem_of_getElem? (i := 1167) rfl, List.mem_of_getElem? (i := 110) rfl, by decide +kernel, by decide +kernel, by decide +kernel, by decide, rfl, Or.inr (Or.inl ⟨rfl, by decide, List.mem_of_getElem? (i := 1166) rfl, List.mem_of_getElem? (i := 37) rfl⟩)⟩
set_option maxRecDepth 100000 in
theorem zOkM65 : zOkM 65 := ⟨List.mem_of_getElem? (i := 1181) rfl, List.mem_of_getElem? (i := 110) rfl, by decide +kernel, by decide +kernel, by decide +kernel, by decide, rfl, Or.inr (Or.inl ⟨rfl, by decide, List.mem_of_getElem? (i := 1180) rfl, List.mem_of_getElem? (i := 38) rfl⟩)⟩
set_option maxRecDepth 100000 in
theorem zOkM66 : zOkM 66 := ⟨List.mem_of_getElem? (i := 568) rfl, List.mem_of_getElem? (i := 111) rfl, by decide +kernel, by decide +kernel, by decide +kernel, by decide, rfl, Or.inr (Or.inr ⟨rfl, by decide, List.mem_of_getElem? (i := 567) rfl, rfl⟩)⟩
set_option maxRecDepth 100000 in
theorem zOkM67 : zOkM 67 := ⟨List.mem_of_getElem? (i := 1282) rfl, List.mem_of_getElem? (i := 111) rfl, by decide +kernel, by decide +kernel, by decide +kernel, by decide, rfl, Or.inr (Or.inl ⟨rfl, by decide, List.mem_of_getElem? (i := 1280) rfl, List.mem_of_getElem? (i := 1281) rfl⟩)⟩
set_option maxRecDepth 100000 in
theorem zOkM68 : zOkM 68 := ⟨List.mem_of_getElem? (i := 1287) rfl, List.mem_of_getElem? (i := 111) rfl, by decide +kernel, by decide +kernel, by decide +kernel, by decide, rfl, Or.inr (Or.inl ⟨rfl, by decide, List.mem_of_getElem? (i := 1286) rfl, List.mem_of_getElem? (i := 42) rfl⟩)⟩
set_option maxRecDepth 100000 in
theorem zOkM69 : zOkM 69 := ⟨List.mem_of_getElem? (i := 1293) rfl, List.mem_of_getElem? (i := 111) rfl, by decide +kernel, by decide +kernel, by decide +kernel, by decide, rfl, Or.inr (Or.inl ⟨rfl, by decide, List.mem_of_getElem? (i := 1292) rfl, List.mem_of_getElem? (i := 43) rfl⟩)⟩
set_option maxRecDepth 100000 in
theorem zOkM70 : zOkM 70 := ⟨List.mem_of_getElem? (i := 1298) rfl, List.mem_of_getElem? (i := 111) rfl, by decide +kernel, by decide +kernel, by decide +kernel, by decide, rfl, Or.inr (Or.inl ⟨rfl, by decide, List.mem_of_getElem? (i := 1297) rfl, List.mem_of_getElem? (i := 44) rfl⟩)⟩
set_option maxRecDepth 100000 in
theorem zOkM71 : zOkM 71 := ⟨List.mem_of_getElem? (i := 1304) rfl, List.mem_of_getElem? (i := 111) rfl, by decide +kernel, by decide +kernel, by decide +kernel, by decide, rfl, Or.inr (Or.inl ⟨rfl, by decide, List.mem_of_getElem? (i := 1303) rfl, List.mem_of_getElem? (i := 45) rfl⟩)⟩
set_option maxRecDepth 100000 in
theorem zOkM72 : zOkM 72 := ⟨List.mem_of_getElem? (i := 1308) rfl, List.mem_of_getElem? (i := 111) rfl, by decide +kernel, by decide +kernel, by decide +kernel, by decide, rfl, Or.inr (Or.inl ⟨rfl, by decide, List.mem_of_getElem? (i := 1307) rfl, List.mem_of_getElem? (i := 46) rfl⟩)⟩
set_option maxRecDepth 100000 in
theorem zOkM73 : zOkM 73 := ⟨List.mem_of_getElem? (i := 168) rfl, List.mem_of_getElem? (i := 103) rfl, by decide +kernel, by decide +kernel, by decide +kernel, by decide, rfl, Or.inr (Or.inr ⟨rfl, by decide, List.mem_of_getElem? (i := 167) rfl, rfl⟩)⟩
set_option maxRecDepth 100000 in
theorem zOkM74 : zOkM 74 := ⟨List.mem_of_getElem? (i := 664) rfl, List.mem_of_getElem? (i := 103) rfl, by decide +kernel, by decide +kernel, by decide +kernel, by decide, rfl, Or.inr (Or.inl ⟨rfl, by decide, List.mem_of_getElem? (i := 662) rfl, List.mem_of_getElem? (i := 663) rfl⟩)⟩
set_option maxRecDepth 100000 in
theorem zOkM75 : zOkM 75 := ⟨List.mem_of_getElem? (i := 1193) rfl, List.mem_of_getElem? (i := 103) rfl, by decide +kernel, by decide +kernel, by decide +kernel, by decide, rfl, Or.inr (Or.inl ⟨rfl, by decide, List.mem_of_getElem? (i := 1191) rfl, List.mem_of_getElem? (i := 1192) rfl⟩)⟩
set_option maxRecDepth 100000 in
theorem zOkM76 : zOkM 76 := ⟨List.mem_of_getElem? (i := 278) rfl, List.mem_of_getElem? (i := 106) rfl, by decide +kernel, by decide +kernel, by decide +kernel, by decide, rfl, Or.inr (Or.inr ⟨rfl, by decide, List.mem_of_getElem? (i := 277) rfl, rfl⟩)⟩
set_option maxRecDepth 100000 in
theorem zOkM77 : zOkM 77 := ⟨List.mem_of_getElem? (i := 733) rfl, List.mem_of_getElem? (i := 106) rfl, by decide +kernel, by decide +kernel, by decide +kernel, by decide, rfl, Or.inr (Or.inl ⟨rfl, by decide, List.mem_of_getElem? (i := 731) rfl, List.mem_of_getElem? (i := 732) rfl⟩)⟩
set_option maxRecDepth 100000 in
theorem zOkM78 : zOkM 78 := ⟨List.mem_of_getElem? (i := 1121) rfl, List.mem_of_getElem? (i := 106) rfl, by decide +kernel, by decide +kernel, by decide +kernel, by decide, rfl, Or.inr (Or.inl ⟨rfl, by decide, List.mem_of_getElem? (i := 1119) rfl, List.mem_of_getElem? (i := 1120) rfl⟩)⟩
set_option maxRecDepth 100000 in
theorem zOkM79 : zOkM 79 := ⟨List.mem_of_getElem? (i := 1151) rfl, List.mem_of_getElem? (i := 106) rfl, by decide +kernel, by decide +kernel, by decide +kernel, by decide, rfl, Or.inr (Or.inl ⟨rfl, by decide, List.mem_of_getElem? (i := 1149) rfl, List.mem_of_getElem? (i := 1150) rfl⟩)⟩
set_option maxRecDepth 100000 in
theorem zOkM80 : zOkM 80 := ⟨List.mem_of_getElem? (i := 1221) rfl, List.mem_of_getElem? (i := 106) rfl, by decide +kernel, by decide +kernel, by decide +kernel, by decide, rfl, Or.inr (Or.inl ⟨rfl, by decide, List.mem_of_getElem? (i := 1219) rfl, List.mem_of_getElem? (i := 1220) rfl⟩)⟩
set_option maxRecDepth 100000 in
theorem zOkM81 : zOkM 81 := ⟨List.mem_of_getElem? (i := 1351) rfl, List.mem_of_getElem? (i := 106) rfl, by decide +kernel, by decide +kernel, by decide +kernel, by decide, rfl, Or.inr (Or.inl ⟨rfl, by decide, List.mem_of_getElem? (i := 1349) rfl, List.mem_of_getElem? (i := 1350) rfl⟩)⟩
set_option maxRecDepth 100000 in
theorem zOkM82 : zOkM 82 := ⟨List.mem_of_getElem? (i := 386) rfl, List.mem_of_getElem? (i := 108) rfl, by decide +kernel, by decide +kernel, by decide +kernel, by decide, rfl, Or.inr (Or.inr ⟨rfl, by decide, List.mem_of_getElem? (i := 385) rfl, rfl⟩)⟩
set_option maxRecDepth 100000 in
theorem zOkM83 : zOkM 83 := ⟨List.mem_of_getElem? (i := 1362) rfl, List.mem_of_getElem? (i := 108) rfl, by decide +kernel, by decide +kernel, by decide +kernel, by decide, rfl, Or.inr (Or.inl ⟨rfl, by decide, List.mem_of_getElem? (i := 1360) rfl, List.mem_of_getElem? (i := 1361) rfl⟩)⟩
set_option maxRecDepth 100000 in
theorem zOkM84 : zOkM 84 := ⟨List.mem_of_getElem? (i := 132) rfl, List.mem_of_getElem? (i := 101) rfl, by decide +kernel, by decide +kernel, by decide +kernel, by decide, rfl, Or.inr (Or.inr ⟨rfl, by decide, List.mem_of_getElem? (i := 131) rfl, rfl⟩)⟩
set_option maxRecDepth 100000 in
theorem zOkM85 : zOkM 85 := ⟨List.mem_of_getElem? (i := 687) rfl, List.mem_of_getElem? (i := 101) rfl, by decide +kernel, by decide +kernel, by decide +kernel, by decide, rfl, Or.inr (Or.inl ⟨rfl, by decide, List.mem_of_getElem? (i := 685) rfl, List.mem_of_getElem? (i := 686) rfl⟩)⟩
set_option maxRecDepth 100000 in
theorem zOkM86 : zOkM 86 := ⟨List.mem_of_getElem? (i := 742) rfl, List.mem_of_getElem? (i := 101) rfl, by decide +kernel, by decide +kernel, by decide +kernel, by decide, rfl, Or.inr (Or.inl ⟨rfl, by decide, List.mem_of_getElem? (i := 740) rfl, List.mem_of_getElem? (i := 741) rfl⟩)⟩
set_option maxRecDepth 100000 in
theorem zOkM87 : zOkM 87 := ⟨List.mem_of_getElem? (i := 750) rfl, List.mem_of_getElem? (i := 101) rfl, by decide +kernel, by decide +kernel, by decide +kernel, by decide, rfl, Or.inr (Or.inl ⟨rfl, by decide, List.mem_of_getElem? (i := 748) rfl, List.mem_of_getElem? (i := 749) rfl⟩)⟩
set_option maxRecDepth 100000 in
theorem zOkM88 : zOkM 88 := ⟨List.mem_of_getElem? (i := 755) rfl, List.mem_of_getElem? (i := 101) rfl, by decide +kernel, by decide +kernel, by decide +kernel, by decide, rfl, Or.inr (Or.inl ⟨rfl, by decide, List.mem_of_getElem? (i := 753) rfl, List.mem_of_getElem? (i := 754) rfl⟩)⟩
set_option maxRecDepth 100000 in
theorem zOkM89 : zOkM 89 := ⟨List.mem_of_getElem? (i := 767) rfl, List.mem_of_getElem? (i := 101) rfl, by decide +kernel, by decide +kernel, by decide +kernel, by decide, rfl, Or.inr (Or.inl ⟨rfl, by decide, List.mem_of_getElem? (i := 765) rfl, List.mem_of_getElem? (i := 766) rfl⟩)⟩
set_option maxRecDepth 100000 in
theorem zOkM90 : zOkM 90 := ⟨List.mem_of_getElem? (i := 787) rfl, List.mem_of_getElem? (i := 101) rfl, by decide +kernel, by decide +kernel, by decide +kernel, by decide, rfl, Or.inr (Or.inl ⟨rfl, by decide, List.mem_of_getElem? (i := 785) rfl, List.mem_of_getElem? (i := 786) rfl⟩)⟩
set_option maxRecDepth 100000 in
theorem zOkM91 : zOkM 91 := ⟨List.mem_of_getElem? (i := 1008) rfl, List.mem_of_getElem? (i := 101) rfl, by decide +kernel, by decide +kernel, by decide +kernel, by decide, rfl, Or.inr (Or.inl ⟨rfl, by decide, List.mem_of_getElem? (i := 1006) rfl, List.mem_of_getElem? (i := 1007) rfl⟩)⟩
set_option maxRecDepth 100000 in
theorem zOkM92 : zOkM 92 := ⟨List.mem_of_getElem? (i := 1027) rfl, List.mem_of_getElem? (i := 101) rfl, by decide +kernel, by decide +kernel, by decide +kernel, by decide, rfl, Or.inr (Or.inl ⟨rfl, by decide, List.mem_of_getElem? (i := 1025) rfl, List.mem_of_getElem? (i := 1026) rfl⟩)⟩
set_option maxRecDepth 100000 in
theorem zOkM93 : zOkM 93 := ⟨List.mem_of_getElem? (i := 1036) rfl, List.mem_of_getElem? (i := 101) rfl, by decide +kernel, by decide +kernel, by decide +kernel, by decide, rfl, Or.inr (Or.inl ⟨rfl, by decide, List.mem_of_getElem? (i := 1035) rfl, List.mem_of_getElem? (i := 22) rfl⟩)⟩
set_option maxRecDepth 100000 in
theorem zOkM94 : zOkM 94 := ⟨List.mem_of_getElem? (i := 1049) rfl, List.mem_of_getElem? (i := 101) rfl, by decide +kernel, by decide +kernel, by decide +kernel, by decide, rfl, Or.inr (Or.inl ⟨rfl, by decide, List.mem_of_getElem? (i := 1048) rfl, List.mem_of_getElem? (i := 23) rfl⟩)⟩
set_option maxRecDepth 100000 in
theorem zOkM95 : zOkM 95 := ⟨List.mem_of_getElem? (i := 1053) rfl, List.mem_of_getElem? (i := 101) rfl, by decide +kernel, by decide +kernel, by decide +kernel, by decide, rfl, Or.inr (Or.inl ⟨rfl, by decide, List.mem_of_getElem? (i := 1052) rfl, List.mem_of_getElem? (i := 24) rfl⟩)⟩
set_option maxRecDepth 100000 in
theorem zOkM96 : zOkM 96 := ⟨List.mem_of_getElem? (i := 1159) rfl, List.mem_of_getElem? (i := 101) rfl, by decide +kernel, by decide +kernel, by decide +kernel, by decide, rfl, Or.inr (Or.inl ⟨rfl, by decide, List.mem_of_getElem? (i := 1157) rfl, List.mem_of_getElem? (i := 1158) rfl⟩)⟩
set_option maxRecDepth 100000 in
theorem zOkM97 : zOkM 97 := ⟨List.mem_of_getElem? (i := 1185) rfl, List.mem_of_getElem? (i := 101) rfl, by decide +kernel, by decide +kernel, by decide +kernel, by decide, rfl, Or.inr (Or.inl ⟨rfl, by decide, List.mem_of_getElem? (i := 1183) rfl, List.mem_of_getElem? (i := 1184) rfl⟩)⟩
set_option maxRecDepth 100000 in
theorem zOkM98 : zOkM 98 := ⟨List.mem_of_getElem? (i := 1189) rfl, List.mem_of_getElem? (i := 101) rfl, by decide +kernel, by decide +kernel, by decide +kernel, by decide, rfl, Or.inr (Or.inl ⟨rfl, by decide, List.mem_of_getElem? (i := 1187) rfl, List.mem_of_getElem? (i := 1188) rfl⟩)⟩
set_option maxRecDepth 100000 in
theorem zOkM99 : zOkM 99 := ⟨List.mem_of_getElem? (i := 1205) rfl, List.mem_of_getElem? (i := 101) rfl, by decide +kernel, by decide +kernel, by decide +kernel, by decide, rfl, Or.inr (Or.inl ⟨rfl, by decide, List.mem_of_getElem? (i := 1203) rfl, List.mem_of_getElem? (i := 1204) rfl⟩)⟩
set_option maxRecDepth 100000 in
theorem zOkM100 : zOkM 100 := ⟨List.mem_of_getElem? (i := 1209) rfl, List.mem_of_getElem? (i := 101) rfl, by decide +kernel, by decide +kernel, by decide +kernel, by decide, rfl, Or.inr (Or.inl ⟨rfl, by decide, List.mem_of_getElem? (i := 1208) rfl, List.mem_of_getElem? (i := 39) rfl⟩)⟩
set_option maxRecDepth 100000 in
theorem zOkM101 : zOkM 101 := ⟨List.mem_of_getElem? (i := 1230) rfl, List.mem_of_getElem? (i := 101) rfl, by decide +kernel, by decide +kernel, by decide +kernel, by decide, rfl, Or.inr (Or.inl ⟨rfl, by decide, List.mem_of_getElem? (i := 1228) rfl, List.mem_of_getElem? (i := 1229) rfl⟩)⟩
set_option maxRecDepth 100000 in
theorem zOkM102 : zOkM 102 := ⟨List.mem_of_getElem? (i := 1340) rfl, List.mem_of_getElem? (i := 101) rfl, by decide +kernel, by decide +kernel, by decide +kernel, by decide, rfl, Or.inr (Or.inl ⟨rfl, by decide, List.mem_of_getElem? (i := 1338) rfl, List.mem_of_getElem? (i := 1339) rfl⟩)⟩
set_option maxRecDepth 100000 in
theorem zOkM103 : zOkM 103 := ⟨List.mem_of_getElem? (i := 1390) rfl, List.mem_of_getElem? (i := 101) rfl, by decide +kernel, by decide +kernel, by decide +kernel, by decide, rfl, Or.inr (Or.inl ⟨rfl, by decide, List.mem_of_getElem? (i := 1388) rfl, List.mem_of_getElem? (i := 1389) rfl⟩)⟩
set_option maxRecDepth 100000 in
theorem zOkM104 : zOkM 104 := ⟨List.mem_of_getElem? (i := 124) rfl, List.mem_of_getElem? (i := 100) rfl, by decide +kernel, by decide +kernel, by decide +kernel, by decide, rfl, Or.inr (Or.inr ⟨rfl, by decide, List.mem_of_getElem? (i := 123) rfl, rfl⟩)⟩
set_option maxRecDepth 100000 in
theorem zOkM105 : zOkM 105 := ⟨List.mem_of_getElem? (i := 650) rfl, List.mem_of_getElem? (i := 100) rfl, by decide +kernel, by decide +kernel, by decide +kernel, by decide, rfl, Or.inr (Or.inl ⟨rfl, by decide, List.mem_of_getElem? (i := 648) rfl, List.mem_of_getElem? (i := 649) rfl⟩)⟩
set_option maxRecDepth 100000 in
theorem zOkM106 : zOkM 106 := ⟨List.mem_of_getElem? (i := 653) rfl, List.mem_of_getElem? (i := 100) rfl, by decide +kernel, by decide +kernel, by decide +kernel, by decide, rfl, Or.inl ⟨rfl, List.mem_of_getElem? (i := 652) rfl⟩⟩
set_option maxRecDepth 100000 in
theorem zOkM107 : zOkM 107 := ⟨List.mem_of_getElem? (i := 658) rfl, List.mem_of_getElem? (i := 100) rfl, by decide +kernel, by decide +kernel, by decide +kernel, by decide, rfl, Or.inl ⟨rfl, List.mem_of_getElem? (i := 657) rfl⟩⟩
set_option maxRecDepth 100000 in
theorem zOkM108 : zOkM 108 := ⟨List.mem_of_getElem? (i := 668) rfl, List.mem_of_getElem? (i := 100) rfl, by decide +kernel, by decide +kernel, by decide +kernel, by decide, rfl, Or.inr (Or.inl ⟨rfl, by decide, List.mem_of_getElem? (i := 666) rfl, List.mem_of_getElem? (i := 667) rfl⟩)⟩
set_option maxRecDepth 100000 in
theorem zOkM109 : zOkM 109 := ⟨List.mem_of_getElem? (i := 683) rfl, List.mem_of_getElem? (i := 100) rfl, by decide +kernel, by decide +kernel, by decide +kernel, by decide, rfl, Or.inr (Or.inl ⟨rfl, by decide, List.mem_of_getElem? (i := 681) rfl, List.mem_of_getElem? (i := 682) rfl⟩)⟩
set_option maxRecDepth 100000 in
theorem zOkM110 : zOkM 110 := ⟨List.mem_of_getElem? (i := 691) rfl, List.mem_of_getElem? (i := 100) rfl, by decide +kernel, by decide +kernel, by decide +kernel, by decide, rfl, Or.inr (Or.inl ⟨rfl, by decide, List.mem_of_getElem? (i := 689) rfl, List.mem_of_getElem? (i := 690) rfl⟩)⟩
set_option maxRecDepth 100000 in
theorem zOkM111 : zOkM 111 := ⟨List.mem_of_getElem? (i := 695) rfl, List.mem_of_getElem? (i := 100) rfl, by decide +kernel, by decide +kernel, by decide +kernel, by decide, rfl, Or.inr (Or.inl ⟨rfl, by decide, List.mem_of_getElem? (i := 693) rfl, List.mem_of_getElem? (i := 694) rfl⟩)⟩
set_option maxRecDepth 100000 in
theorem zOkM112 : zOkM 112 := ⟨List.mem_of_getElem? (i := 698) rfl, List.mem_of_getElem? (i := 100) rfl, by decide +kernel, by decide +kernel, by decide +kernel, by decide, rfl, Or.inl ⟨rfl, List.mem_of_getElem? (i := 697) rfl⟩⟩
set_option maxRecDepth 100000 in
theorem zOkM113 : zOkM 113 := ⟨List.mem_of_getElem? (i := 706) rfl, List.mem_of_getElem? (i := 100) rfl, by decide +kernel, by decide +kernel, by decide +kernel, by decide, rfl, Or.inr (Or.inl ⟨rfl, by decide, List.mem_of_getElem? (i := 704) rfl, List.mem_of_getElem? (i := 705) rfl⟩)⟩
set_option maxRecDepth 100000 in
theorem zOkM114 : zOkM 114 := ⟨List.mem_of_getElem? (i := 710) rfl, List.mem_of_getElem? (i := 100) rfl, by decide +kernel, by decide +kernel, by decide +kernel, by decide, rfl, Or.inr (Or.inl ⟨rfl, by decide, List.mem_of_getElem? (i := 708) rfl, List.mem_of_getElem? (i := 709) rfl⟩)⟩
set_option maxRecDepth 100000 in
theorem zOkM115 : zOkM 115 := ⟨List.mem_of_getElem? (i := 713) rfl, List.mem_of_getElem? (i := 100) rfl, by decide +kernel, by decide +kernel, by decide +kernel, by decide, rfl, Or.inl ⟨rfl, List.mem_of_getElem? (i := 712) rfl⟩⟩
set_option maxRecDepth 100000 in
theorem zOkM116 : zOkM 116 := ⟨List.mem_of_getElem? (i := 717) rfl, List.mem_of_getElem? (i := 100) rfl, by decide +kernel, by decide +kernel, by decide +kernel, by decide, rfl, Or.inr (Or.inl ⟨rfl, by decide, List.mem_of_getElem? (i := 715) rfl, List.mem_of_getElem? (i := 716) rfl⟩)⟩
set_option maxRecDepth 100000 in
theorem zOkM117 : zOkM 117 := ⟨List.mem_of_getElem? (i := 725) rfl, List.mem_of_getElem? (i := 100) rfl, by decide +kernel, by decide +kernel, by decide +kernel, by decide, rfl, Or.inr (Or.inl ⟨rfl, by decide, List.mem_of_getElem? (i := 723) rfl, List.mem_of_getElem? (i := 724) rfl⟩)⟩
set_option maxRecDepth 100000 in
theorem zOkM118 : zOkM 118 := ⟨List.mem_of_getElem? (i := 729) rfl, List.mem_of_getElem? (i := 100) rfl, by decide +kernel, by decide +kernel, by decide +kernel, by decide, rfl, Or.inr (Or.inl ⟨rfl, by decide, List.mem_of_getElem? (i := 727) rfl, List.mem_of_getElem? (i := 728) rfl⟩)⟩
set_option maxRecDepth 100000 in
theorem zOkM119 : zOkM 119 := ⟨List.mem_of_getElem? (i := 738) rfl, List.mem_of_getElem? (i := 100) rfl, by decide +kernel, by decide +kernel, by decide +kernel, by decide, rfl, Or.inr (Or.inl ⟨rfl, by decide, List.mem_of_getElem? (i := 736) rfl, List.mem_of_getElem? (i := 737) rfl⟩)⟩
set_option maxRecDepth 100000 in
theorem zOkM120 : zOkM 120 := ⟨List.mem_of_getElem? (i := 746) rfl, List.mem_of_getElem? (i := 100) rfl, by decide +kernel, by decide +kernel, by decide +kernel, by decide, rfl, Or.inr (Or.inl ⟨rfl, by decide, List.mem_of_getElem? (i := 744) rfl, List.mem_of_getElem? (i := 745) rfl⟩)⟩
set_option maxRecDepth 100000 in
theorem zOkM121 : zOkM 121 := ⟨List.mem_of_getElem? (i := 759) rfl, List.mem_of_getElem? (i := 100) rfl, by decide +kernel, by decide +kernel, by decide +kernel, by decide, rfl, Or.inr (Or.inl ⟨rfl, by decide, List.mem_of_getElem? (i := 757) rfl, List.mem_of_getElem? (i := 758) rfl⟩)⟩
set_option maxRecDepth 100000 in
theorem zOkM122 : zOkM 122 := ⟨List.mem_of_getElem? (i := 763) rfl, List.mem_of_getElem? (i := 100) rfl, by decide +kernel, by decide +kernel, by decide +kernel, by decide, rfl, Or.inr (Or.inl ⟨rfl, by decide, List.mem_of_getElem? (i := 761) rfl, List.mem_of_getElem? (i := 762) rfl⟩)⟩
set_option maxRecDepth 100000 in
theorem zOkM123 : zOkM 123 := ⟨List.mem_of_getElem? (i := 771) rfl, List.mem_of_getElem? (i := 100) rfl, by decide +kernel, by decide +kernel, by decide +kernel, by decide, rfl, Or.inr (Or.inl ⟨rfl, by decide, List.mem_of_getElem? (i := 769) rfl, List.mem_of_getElem? (i := 770) rfl⟩)⟩
set_option maxRecDepth 100000 in
theorem zOkM124 : zOkM 124 := ⟨List.mem_of_getElem? (i := 775) rfl, List.mem_of_getElem? (i := 100) rfl, by decide +kernel, by decide +kernel, by decide +kernel, by decide, rfl, Or.inr (Or.inl ⟨rfl, by decide, List.mem_of_getElem? (i := 774) rfl, List.mem_of_getElem? (i := 0) rfl⟩)⟩
set_option maxRecDepth 100000 in
theorem zOkM125 : zOkM 125 := ⟨List.mem_of_getElem? (i := 779) rfl, List.mem_of_getElem? (i := 100) rfl, by decide +kernel, by decide +kernel, by decide +kernel, by decide, rfl, Or.inr (Or.inl ⟨rfl, by decide, List.mem_of_getElem? (i := 777) rfl, List.mem_of_getElem? (i := 778) rfl⟩)⟩
set_option maxRecDepth 100000 in
theorem zOkM126 : zOkM 126 := ⟨List.mem_of_getElem? (i := 783) rfl, List.mem_of_getElem? (i := 100) rfl, by decide +kernel, by decide +kernel, by decide +kernel, by decide, rfl, Or.inr (Or.inl ⟨rfl, by decide, List.mem_of_getElem? (i := 781) rfl, List.mem_of_getElem? (i := 782) rfl⟩)⟩
set_option maxRecDepth 100000 in
theorem zOkM127 : zOkM 127 := ⟨List.mem_of_getElem? (i := 1002) rfl, List.mem_of_getElem? (i := 100) rfl, by decide +kernel, by decide +kernel, by decide +kernel, by decide, rfl, Or.inr (Or.inl ⟨rfl, by decide, List.mem_of_getElem? (i := 1000) rfl, List.mem_of_getElem? (i := 1001) rfl⟩)⟩
set_option maxRecDepth 100000 in
theorem zOkM128 : zOkM 128 := ⟨List.mem_of_getElem? (i := 1023) rfl, List.mem_of_getElem? (i := 100) rfl, by decide +kernel, by decide +kernel, by decide +kernel, by decide, rfl, Or.inr (Or.inl ⟨rfl, by decide, List.mem_of_getElem? (i := 1021) rfl, List.mem_of_getElem? (i := 1022) rfl⟩)⟩
set_option maxRecDepth 100000 in
theorem zOkM129 : zOkM 129 := ⟨List.mem_of_getElem? (i := 1116) rfl, List.mem_of_getElem? (i := 100) rfl, by decide +kernel, by decide +kernel, by decide +kernel, by decide, rfl, Or.inl ⟨rfl, List.mem_of_getElem? (i := 1115) rfl⟩⟩
set_option maxRecDepth 100000 in
theorem zOkM130 : zOkM 130 := ⟨List.mem_of_getElem? (i := 1213) rfl, List.mem_of_getElem? (i := 100) rfl, by decide +kernel, by decide +kernel, by decide +kernel, by decide, rfl, Or.inr (Or.inl ⟨rfl, by decide, List.mem_of_getElem? (i := 1211) rfl, List.mem_of_getElem? (i := 1212) rfl⟩)⟩
set_option maxRecDepth 100000 in
theorem zOkM131 : zOkM 131 := ⟨List.mem_of_getElem? (i := 1217) rfl, List.mem_of_getElem? (i := 100) rfl, by decide +kernel, by decide +kernel, by decide +kernel, by decide, rfl, Or.inr (Or.inl ⟨rfl, by decide, List.mem_of_getElem? (i := 1215) rfl, List.mem_of_getElem? (i := 1216) rfl⟩)⟩
set_option maxRecDepth 100000 in
theorem zOkM132 : zOkM 132 := ⟨List.mem_of_getElem? (i := 1226) rfl, List.mem_of_getElem? (i := 100) rfl, by decide +kernel, by decide +kernel, by decide +kernel, by decide, rfl, Or.inr (Or.inl ⟨rfl, by decide, List.mem_of_getElem? (i := 1224) rfl, List.mem_of_getElem? (i := 1225) rfl⟩)⟩
set_option maxRecDepth 100000 in
theorem zOkM133 : zOkM 133 := ⟨List.mem_of_getElem? (i := 1238) rfl, List.mem_of_getElem? (i := 100) rfl, by decide +kernel, by decide +kernel, by decide +kernel, by decide, rfl, Or.inr (Or.inl ⟨rfl, by decide, List.mem_of_getElem? (i := 1236) rfl, List.mem_of_getElem? (i := 1237) rfl⟩)⟩
set_option maxRecDepth 100000 in
theorem zOkM134 : zOkM 134 := ⟨List.mem_of_getElem? (i := 1242) rfl, List.mem_of_getElem? (i := 100) rfl, by decide +kernel, by decide +kernel, by decide +kernel, by decide, rfl, Or.inr (Or.inl ⟨rfl, by decide, List.mem_of_getElem? (i := 1241) rfl, List.mem_of_getElem? (i := 40) rfl⟩)⟩
set_option maxRecDepth 100000 in
theorem zOkM135 : zOkM 135 := ⟨List.mem_of_getElem? (i := 1246) rfl, List.mem_of_getElem? (i := 100) rfl, by decide +kernel, by decide +kernel, by decide +kernel, by decide, rfl, Or.inr (Or.inl ⟨rfl, by decide, List.mem_of_getElem? (i := 1245) rfl, List.mem_of_getElem? (i := 41) rfl⟩)⟩
set_option maxRecDepth 100000 in
theorem zOkM136 : zOkM 136 := ⟨List.mem_of_getElem? (i := 1253) rfl, List.mem_of_getElem? (i := 100) rfl, by decide +kernel, by decide +kernel, by decide +kernel, by decide, rfl, Or.inr (Or.inl ⟨rfl, by decide, List.mem_of_getElem? (i := 1251) rfl, List.mem_of_getElem? (i := 1252) rfl⟩)⟩
set_option maxRecDepth 100000 in
theorem zOkM137 : zOkM 137 := ⟨List.mem_of_getElem? (i := 1261) rfl, List.mem_of_getElem? (i := 100) rfl, by decide +kernel, by decide +kernel, by decide +kernel, by decide, rfl, Or.inr (Or.inl ⟨rfl, by decide, List.mem_of_getElem? (i := 1259) rfl, List.mem_of_getElem? (i := 1260) rfl⟩)⟩
set_option maxRecDepth 100000 in
theorem zOkM138 : zOkM 138 := ⟨List.mem_of_getElem? (i := 1266) rfl, List.mem_of_getElem? (i := 100) rfl, by decide +kernel, by decide +kernel, by decide +kernel, by decide, rfl, Or.inr (Or.inl ⟨rfl, by decide, List.mem_of_getElem? (i := 1264) rfl, List.mem_of_getElem? (i := 1265) rfl⟩)⟩
set_option maxRecDepth 100000 in
theorem zOkM139 : zOkM 139 := ⟨List.mem_of_getElem? (i := 1270) rfl, List.mem_of_getElem? (i := 100) rfl, by decide +kernel, by decide +kernel, by decide +kernel, by decide, rfl, Or.inr (Or.inl ⟨rfl, by decide, List.mem_of_getElem? (i := 1268) rfl, List.mem_of_getElem? (i := 1269) rfl⟩)⟩
set_option maxRecDepth 100000 in
theorem zOkM140 : zOkM 140 := ⟨List.mem_of_getElem? (i := 1274) rfl, List.mem_of_getElem? (i := 100) rfl, by decide +kernel, by decide +kernel, by decide +kernel, by decide, rfl, Or.inr (Or.inl ⟨rfl, by decide, List.mem_of_getElem? (i := 1272) rfl, List.mem_of_getElem? (i := 1273) rfl⟩)⟩
set_option maxRecDepth 100000 in
theorem zOkM141 : zOkM 141 := ⟨List.mem_of_getElem? (i := 1278) rfl, List.mem_of_getElem? (i := 100) rfl, by decide +kernel, by decide +kernel, by decide +kernel, by decide, rfl, Or.inr (Or.inl ⟨rfl, by decide, List.mem_of_getElem? (i := 1276) rfl, List.mem_of_getElem? (i := 1277) rfl⟩)⟩
set_option maxRecDepth 100000 in
theorem zOkM142 : zOkM 142 := ⟨List.mem_of_getElem? (i := 1323) rfl, List.mem_of_getElem? (i := 100) rfl, by decide +kernel, by decide +kernel, by decide +kernel, by decide, rfl, Or.inr (Or.inl ⟨rfl, by decide, List.mem_of_getElem? (i := 1321) rfl, List.mem_of_getElem? (i := 1322) rfl⟩)⟩
set_option maxRecDepth 100000 in
theorem zOkM143 : zOkM 143 := ⟨List.mem_of_getElem? (i := 1328) rfl, List.mem_of_getElem? (i := 100) rfl, by decide +kernel, by decide +kernel, by decide +kernel, by decide, rfl, Or.inr (Or.inl ⟨rfl, by decide, List.mem_of_getElem? (i := 1326) rfl, List.mem_of_getElem? (i := 1327) rfl⟩)⟩
set_option maxRecDepth 100000 in
theorem zOkM144 : zOkM 144 := ⟨List.mem_of_getElem? (i := 1332) rfl, List.mem_of_getElem? (i := 100) rfl, by decide +kernel, by decide +kernel, by decide +kernel, by decide, rfl, Or.inr (Or.inl ⟨rfl, by decide, List.mem_of_getElem? (i := 1330) rfl, List.mem_of_getElem? (i := 1331) rfl⟩)⟩
set_option maxRecDepth 100000 in
theorem zOkM145 : zOkM 145 := ⟨List.mem_of_getElem? (i := 1336) rfl, List.mem_of_getElem? (i := 100) rfl, by decide +kernel, by decide +kernel, by decide +kernel, by decide, rfl, Or.inr (Or.inl ⟨rfl, by decide, List.mem_of_getElem? (i := 1334) rfl, List.mem_of_getElem? (i := 1335) rfl⟩)⟩
set_option maxRecDepth 100000 in
theorem zOkM146 : zOkM 146 := ⟨List.mem_of_getElem? (i := 1367) rfl, List.mem_of_getElem? (i := 100) rfl, by decide +kernel, by decide +kernel, by decide +kernel, by decide, rfl, Or.inr (Or.inl ⟨rfl, by decide, List.mem_of_getElem? (i := 1365) rfl, List.mem_of_getElem? (i := 1366) rfl⟩)⟩
set_option maxRecDepth 100000 in
theorem zOkM147 : zOkM 147 := ⟨List.mem_of_getElem? (i := 1371) rfl, List.mem_of_getElem? (i := 100) rfl, by decide +kernel, by decide +kernel, by decide +kernel, by decide, rfl, Or.inr (Or.inl ⟨rfl, by decide, List.mem_of_getElem? (i := 1369) rfl, List.mem_of_getElem? (i := 1370) rfl⟩)⟩
set_option maxRecDepth 100000 in
theorem zOkM148 : zOkM 148 := ⟨List.mem_of_getElem? (i := 1376) rfl, List.mem_of_getElem? (i := 100) rfl, by decide +kernel, by decide +kernel, by decide +kernel, by decide, rfl, Or.inr (Or.inl ⟨rfl, by decide, List.mem_of_getElem? (i := 1374) rfl, List.mem_of_getElem? (i := 1375) rfl⟩)⟩
set_option maxRecDepth 100000 in
theorem zOkM149 : zOkM 149 := ⟨List.mem_of_getElem? (i := 1381) rfl, List.mem_of_getElem? (i := 100) rfl, by decide +kernel, by decide +kernel, by decide +kernel, by decide, rfl, Or.inr (Or.inl ⟨rfl, by decide, List.mem_of_getElem? (i := 1379) rfl, List.mem_of_getElem? (i := 1380) rfl⟩)⟩
set_option maxRecDepth 100000 in
theorem zOkM150 : zOkM 150 := ⟨List.mem_of_getElem? (i := 1386) rfl, List.mem_of_getElem? (i := 100) rfl, by decide +kernel, by decide +kernel, by decide +kernel, by decide, rfl, Or.inr (Or.inl ⟨rfl, by decide, List.mem_of_getElem? (i := 1384) rfl, List.mem_of_getElem? (i := 1385) rfl⟩)⟩
set_option maxRecDepth 100000 in
theorem zOkM151 : zOkM 151 := ⟨List.mem_of_getElem? (i := 1395) rfl, List.mem_of_getElem? (i := 112) rfl, by decide +kernel, by decide +kernel, by decide +kernel, by decide, rfl, Or.inr (Or.inr ⟨rfl, by decide, List.mem_of_getElem? (i := 1394) rfl, rfl⟩)⟩
set_option maxRecDepth 100000 in
theorem zOkM152 : zOkM 152 := ⟨List.mem_of_getElem? (i := 1524) rfl, List.mem_of_getElem? (i := 112) rfl, by decide +kernel, by decide +kernel, by decide +kernel, by decide, rfl, Or.inr (Or.inl ⟨rfl, by decide, List.mem_of_getElem? (i := 1522) rfl, List.mem_of_getElem? (i := 1523) rfl⟩)⟩
set_option maxRecDepth 100000 in
theorem zOkM153 : zOkM 153 := ⟨List.mem_of_getElem? (i := 1527) rfl, List.mem_of_getElem? (i := 112) rfl, by decide +kernel, by decide +kernel, by decide +kernel, by decide, rfl, Or.inl ⟨rfl, List.mem_of_getElem? (i := 1526) rfl⟩⟩
set_option maxRecDepth 100000 in
theorem zOkM154 : zOkM 154 := ⟨List.mem_of_getElem? (i := 1532) rfl, List.mem_of_getElem? (i := 112) rfl, by decide +kernel, by decide +kernel, by decide +kernel, by decide, rfl, Or.inl ⟨rfl, List.mem_of_getElem? (i := 1531) rfl⟩⟩
set_option maxRecDepth 100000 in
theorem zOkM155 : zOkM 155 := ⟨List.mem_of_getElem? (i := 1538) rfl, List.mem_of_getElem? (i := 112) rfl, by decide +kernel, by decide +kernel, by decide +kernel, by decide, rfl, Or.inr (Or.inl ⟨rfl, by decide, List.mem_of_getElem? (i := 1536) rfl, List.mem_of_getElem? (i := 1537) rfl⟩)⟩
set_option maxRecDepth 100000 in
theorem zOkM156 : zOkM 156 := ⟨List.mem_of_getElem? (i := 1543) rfl, List.mem_of_getElem? (i := 112) rfl, by decide +kernel, by decide +kernel, by decide +kernel, by decide, rfl, Or.inr (Or.inl ⟨rfl, by decide, List.mem_of_getElem? (i := 1541) rfl, List.mem_of_getElem? (i := 1542) rfl⟩)⟩
set_option maxRecDepth 100000 in
theorem zOkM157 : zOkM 157 := ⟨List.mem_of_getElem? (i := 1547) rfl, List.mem_of_getElem? (i := 112) rfl, by decide +kernel, by decide +kernel, by decide +kernel, by decide, rfl, Or.inr (Or.inl ⟨rfl, by decide, List.mem_of_getElem? (i := 1546) rfl, List.mem_of_getElem? (i := 47) rfl⟩)⟩
set_option maxRecDepth 100000 in
theorem zOkM158 : zOkM 158 := ⟨List.mem_of_getElem? (i := 1551) rfl, List.mem_of_getElem? (i := 112) rfl, by decide +kernel, by decide +kernel, by decide +kernel, by decide, rfl, Or.inr (Or.inl ⟨rfl, by decide, List.mem_of_getElem? (i := 1549) rfl, List.mem_of_getElem? (i := 1550) rfl⟩)⟩
set_option maxRecDepth 100000 in
theorem zOkM159 : zOkM 159 := ⟨List.mem_of_getElem? (i := 1555) rfl, List.mem_of_getElem? (i := 112) rfl, by decide +kernel, by decide +kernel, by decide +kernel, by decide, rfl, Or.inr (Or.inl ⟨rfl, by decide, List.mem_of_getElem? (i := 1553) rfl, List.mem_of_getElem? (i := 1554) rfl⟩)⟩
set_option maxRecDepth 100000 in
theorem zOkM160 : zOkM 160 := ⟨List.mem_of_getElem? (i := 1559) rfl, List.mem_of_getElem? (i := 112) rfl, by decide +kernel, by decide +kernel, by decide +kernel, by decide, rfl, Or.inl ⟨rfl, List.mem_of_getElem? (i := 1558) rfl⟩⟩
set_option maxRecDepth 100000 in
theorem zOkM161 : zOkM 161 := ⟨List.mem_of_getElem? (i := 1563) rfl, List.mem_of_getElem? (i := 112) rfl, by decide +kernel, by decide +kernel, by decide +kernel, by decide, rfl, Or.inr (Or.inl ⟨rfl, by decide, List.mem_of_getElem? (i := 1561) rfl, List.mem_of_getElem? (i := 1562) rfl⟩)⟩
set_option maxRecDepth 100000 in
theorem zOkM162 : zOkM 162 := ⟨List.mem_of_getElem? (i := 1566) rfl, List.mem_of_getElem? (i := 112) rfl, by decide +kernel, by decide +kernel, by decide +kernel, by decide, rfl, Or.inl ⟨rfl, List.mem_of_getElem? (i := 1565) rfl⟩⟩
set_option maxRecDepth 100000 in
theorem zOkM163 : zOkM 163 := ⟨List.mem_of_getElem? (i := 1571) rfl, List.mem_of_getElem? (i := 112) rfl, by decide +kernel, by decide +kernel, by decide +kernel, by decide, rfl, Or.inr (Or.inl ⟨rfl, by decide, List.mem_of_getElem? (i := 1569) rfl, List.mem_of_getElem? (i := 1570) rfl⟩)⟩
set_option maxRecDepth 100000 in
theorem zOkM164 : zOkM 164 := ⟨List.mem_of_getElem? (i := 1574) rfl, List.mem_of_getElem? (i := 112) rfl, by decide +kernel, by decide +kernel, by decide +kernel, by decide, rfl, Or.inl ⟨rfl, List.mem_of_getElem? (i := 1573) rfl⟩⟩
set_option maxRecDepth 100000 in
theorem zOkM165 : zOkM 165 := ⟨List.mem_of_getElem? (i := 1578) rfl, List.mem_of_getElem? (i := 112) rfl, by decide +kernel, by decide +kernel, by decide +kernel, by decide, rfl, Or.inr (Or.inl ⟨rfl, by decide, List.mem_of_getElem? (i := 1576) rfl, List.mem_of_getElem? (i := 1577) rfl⟩)⟩
set_option maxRecDepth 100000 in
theorem zOkM166 : zOkM 166 := ⟨List.mem_of_getElem? (i := 1583) rfl, List.mem_of_getElem? (i := 112) rfl, by decide +kernel, by decide +kernel, by decide +kernel, by decide, rfl, Or.inr (Or.inl ⟨rfl, by decide, List.mem_of_getElem? (i := 1581) rfl, List.mem_of_getElem? (i := 1582) rfl⟩)⟩
set_option maxRecDepth 100000 in
theorem zOkM167 : zOkM 167 := ⟨List.mem_of_getElem? (i := 1587) rfl, List.mem_of_getElem? (i := 112) rfl, by decide +kernel, by decide +kernel, by decide +kernel, by decide, rfl, Or.inr (Or.inl ⟨rfl, by decide, List.mem_of_getElem? (i := 1585) rfl, List.mem_of_getElem? (i := 1586) rfl⟩)⟩
set_option maxRecDepth 100000 in
theorem zOkM168 : zOkM 168 := ⟨List.mem_of_getElem? (i := 1591) rfl, List.mem_of_getElem? (i := 112) rfl, by decide +kernel, by decide +kernel, by decide +kernel, by decide, rfl, Or.inr (Or.inl ⟨rfl, by decide, List.mem_of_getElem? (i := 1589) rfl, List.mem_of_getElem? (i := 1590) rfl⟩)⟩
set_option maxRecDepth 100000 in
theorem zOkM169 : zOkM 169 := ⟨List.mem_of_getElem? (i := 1595) rfl, List.mem_of_getElem? (i := 112) rfl, by decide +kernel, by decide +kernel, by decide +kernel, by decide, rfl, Or.inr (Or.inl ⟨rfl, by decide, List.mem_of_getElem? (i := 1594) rfl, List.mem_of_getElem? (i := 48) rfl⟩)⟩
set_option maxRecDepth 100000 in
theorem zOkM170 : zOkM 170 := ⟨List.mem_of_getElem? (i := 1599) rfl, List.mem_of_getElem? (i := 112) rfl, by decide +kernel, by decide +kernel, by decide +kernel, by decide, rfl, Or.inr (Or.inl ⟨rfl, by decide, List.mem_of_getElem? (i := 1597) rfl, List.mem_of_getElem? (i := 1598) rfl⟩)⟩
set_option maxRecDepth 100000 in
theorem zOkM171 : zOkM 171 := ⟨List.mem_of_getElem? (i := 1603) rfl, List.mem_of_getElem? (i := 112) rfl, by decide +kernel, by decide +kernel, by decide +kernel, by decide, rfl, Or.inr (Or.inl ⟨rfl, by decide, List.mem_of_getElem? (i := 1602) rfl, List.mem_of_getElem? (i := 49) rfl⟩)⟩
set_option maxRecDepth 100000 in
theorem zOkM172 : zOkM 172 := ⟨List.mem_of_getElem? (i := 1607) rfl, List.mem_of_getElem? (i := 112) rfl, by decide +kernel, by decide +kernel, by decide +kernel, by decide, rfl, Or.inr (Or.inl ⟨rfl, by decide, List.mem_of_getElem? (i := 1606) rfl, List.mem_of_getElem? (i := 50) rfl⟩)⟩
set_option maxRecDepth 100000 in
theorem zOkM173 : zOkM 173 := ⟨List.mem_of_getElem? (i := 1611) rfl, List.mem_of_getElem? (i := 112) rfl, by decide +kernel, by decide +kernel, by decide +kernel, by decide, rfl, Or.inr (Or.inl ⟨rfl, by decide, List.mem_of_getElem? (i := 1609) rfl, List.mem_of_getElem? (i := 1610) rfl⟩)⟩
set_option maxRecDepth 100000 in
theorem zOkM174 : zOkM 174 := ⟨List.mem_of_getElem? (i := 1615) rfl, List.mem_of_getElem? (i := 112) rfl, by decide +kernel, by decide +kernel, by decide +kernel, by decide, rfl, Or.inr (Or.inl ⟨rfl, by decide, List.mem_of_getElem? (i := 1613) rfl, List.mem_of_getElem? (i := 1614) rfl⟩)⟩
set_option maxRecDepth 100000 in
theorem zOkM175 : zOkM 175 := ⟨List.mem_of_getElem? (i := 1619) rfl, List.mem_of_getElem? (i := 112) rfl, by decide +kernel, by decide +kernel, by decide +kernel, by decide, rfl, Or.inr (Or.inl ⟨rfl, by decide, List.mem_of_getElem? (i := 1618) rfl, List.mem_of_getElem? (i := 51) rfl⟩)⟩
set_option maxRecDepth 100000 in
theorem zOkM176 : zOkM 176 := ⟨List.mem_of_getElem? (i := 1623) rfl, List.mem_of_getElem? (i := 112) rfl, by decide +kernel, by decide +kernel, by decide +kernel, by decide, rfl, Or.inr (Or.inl ⟨rfl, by decide, List.mem_of_getElem? (i := 1621) rfl, List.mem_of_getElem? (i := 1622) rfl⟩)⟩
set_option maxRecDepth 100000 in
theorem zOkM177 : zOkM 177 := ⟨List.mem_of_getElem? (i := 1627) rfl, List.mem_of_getElem? (i := 112) rfl, by decide +kernel, by decide +kernel, by decide +kernel, by decide, rfl, Or.inr (Or.inl ⟨rfl, by decide, List.mem_of_getElem? (i := 1625) rfl, List.mem_of_getElem? (i := 1626) rfl⟩)⟩
set_option maxRecDepth 100000 in
theorem zOkM178 : zOkM 178 := ⟨List.mem_of_getElem? (i := 1631) rfl, List.mem_of_getElem? (i := 112) rfl, by decide +kernel, by decide +kernel, by decide +kernel, by decide, rfl, Or.inr (Or.inl ⟨rfl, by decide, List.mem_of_getElem? (i := 1629) rfl, List.mem_of_getElem? (i := 1630) rfl⟩)⟩
set_option maxRecDepth 100000 in
theorem zOkM179 : zOkM 179 := ⟨List.mem_of_getElem? (i := 1635) rfl, List.mem_of_getElem? (i := 112) rfl, by decide +kernel, by decide +kernel, by decide +kernel, by decide, rfl, Or.inr (Or.inl ⟨rfl, by decide, List.mem_of_getElem? (i := 1634) rfl, List.mem_of_getElem? (i := 52) rfl⟩)⟩
set_option maxRecDepth 100000 in
theorem zOkM180 : zOkM 180 := ⟨List.mem_of_getElem? (i := 1639) rfl, List.mem_of_getElem? (i := 112) rfl, by decide +kernel, by decide +kernel, by decide +kernel, by decide, rfl, Or.inr (Or.inl ⟨rfl, by decide, List.mem_of_getElem? (i := 1638) rfl, List.mem_of_getElem? (i := 53) rfl⟩)⟩
set_option maxRecDepth 100000 in
theorem zOkM181 : zOkM 181 := ⟨List.mem_of_getElem? (i := 1642) rfl, List.mem_of_getElem? (i := 112) rfl, by decide +kernel, by decide +kernel, by decide +kernel, by decide, rfl, Or.inl ⟨rfl, List.mem_of_getElem? (i := 1641) rfl⟩⟩
set_option maxRecDepth 100000 in
theorem zOkM182 : zOkM 182 := ⟨List.mem_of_getElem? (i := 1646) rfl, List.mem_of_getElem? (i := 112) rfl, by decide +kernel, by decide +kernel, by decide +kernel, by decide, rfl, Or.inr (Or.inl ⟨rfl, by decide, List.mem_of_getElem? (i := 1645) rfl, List.mem_of_getElem? (i := 54) rfl⟩)⟩
set_option maxRecDepth 100000 in
theorem zOkM183 : zOkM 183 := ⟨List.mem_of_getElem? (i := 1650) rfl, List.mem_of_getElem? (i := 112) rfl, by decide +kernel, by decide +kernel, by decide +kernel, by decide, rfl, Or.inr (Or.inl ⟨rfl, by decide, List.mem_of_getElem? (i := 1649) rfl, List.mem_of_getElem? (i := 55) rfl⟩)⟩
set_option maxRecDepth 100000 in
theorem zOkM184 : zOkM 184 := ⟨List.mem_of_getElem? (i := 1654) rfl, List.mem_of_getElem? (i := 112) rfl, by decide +kernel, by decide +kernel, by decide +kernel, by decide, rfl, Or.inr (Or.inl ⟨rfl, by decide, List.mem_of_getElem? (i := 1653) rfl, List.mem_of_getElem? (i := 56) rfl⟩)⟩
set_option maxRecDepth 100000 in
theorem zOkM185 : zOkM 185 := ⟨List.mem_of_getElem? (i := 1658) rfl, List.mem_of_getElem? (i := 112) rfl, by decide +kernel, by decide +kernel, by decide +kernel, by decide, rfl, Or.inr (Or.inl ⟨rfl, by decide, List.mem_of_getElem? (i := 1657) rfl, List.mem_of_getElem? (i := 57) rfl⟩)⟩
set_option maxRecDepth 100000 in
theorem zOkM186 : zOkM 186 := ⟨List.mem_of_getElem? (i := 1662) rfl, List.mem_of_getElem? (i := 112) rfl, by decide +kernel, by decide +kernel, by decide +kernel, by decide, rfl, Or.inr (Or.inl ⟨rfl, by decide, List.mem_of_getElem? (i := 1661) rfl, List.mem_of_getElem? (i := 58) rfl⟩)⟩
set_option maxRecDepth 100000 in
theorem zOkM187 : zOkM 187 := ⟨List.mem_of_getElem? (i := 1668) rfl, List.mem_of_getElem? (i := 112) rfl, by decide +kernel, by decide +kernel, by decide +kernel, by decide, rfl, Or.inl ⟨rfl, List.mem_of_getElem? (i := 1667) rfl⟩⟩
set_option maxRecDepth 100000 in
theorem zOkM188 : zOkM 188 := ⟨List.mem_of_getElem? (i := 1672) rfl, List.mem_of_getElem? (i := 112) rfl, by decide +kernel, by decide +kernel, by decide +kernel, by decide, rfl, Or.inr (Or.inl ⟨rfl, by decide, List.mem_of_getElem? (i := 1671) rfl, List.mem_of_getElem? (i := 59) rfl⟩)⟩
set_option maxRecDepth 100000 in
theorem zOkM189 : zOkM 189 := ⟨List.mem_of_getElem? (i := 1676) rfl, List.mem_of_getElem? (i := 112) rfl, by decide +kernel, by decide +kernel, by decide +kernel, by decide, rfl, Or.inr (Or.inl ⟨rfl, by decide, List.mem_of_getElem? (i := 1675) rfl, List.mem_of_getElem? (i := 60) rfl⟩)⟩
set_option maxRecDepth 100000 in
theorem zOkM190 : zOkM 190 := ⟨List.mem_of_getElem? (i := 1680) rfl, List.mem_of_getElem? (i := 112) rfl, by decide +kernel, by decide +kernel, by decide +kernel, by decide, rfl, Or.inr (Or.inl ⟨rfl, by decide, List.mem_of_getElem? (i := 1679) rfl, List.mem_of_getElem? (i := 61) rfl⟩)⟩
set_option maxRecDepth 100000 in
theorem zOkM191 : zOkM 191 := ⟨List.mem_of_getElem? (i := 1684) rfl, List.mem_of_getElem? (i := 112) rfl, by decide +kernel, by decide +kernel, by decide +kernel, by decide, rfl, Or.inr (Or.inl ⟨rfl, by decide, List.mem_of_getElem? (i := 1683) rfl, List.mem_of_getElem? (i := 62) rfl⟩)⟩
set_option maxRecDepth 100000 in
theorem zOkM192 : zOkM 192 := ⟨List.mem_of_getElem? (i := 1688) rfl, List.mem_of_getElem? (i := 112) rfl, by decide +kernel, by decide +kernel, by decide +kernel, by decide, rfl, Or.inr (Or.inl ⟨rfl, by decide, List.mem_of_getElem? (i := 1687) rfl, List.mem_of_getElem? (i := 63) rfl⟩)⟩
set_option maxRecDepth 100000 in
theorem zOkM193 : zOkM 193 := ⟨List.mem_of_getElem? (i := 1692) rfl, List.mem_of_getElem? (i := 112) rfl, by decide +kernel, by decide +kernel, by decide +kernel, by decide, rfl, Or.inr (Or.inl ⟨rfl, by decide, List.mem_of_getElem? (i := 1691) rfl, List.mem_of_getElem? (i := 64) rfl⟩)⟩
set_option maxRecDepth 100000 in
theorem zOkM194 : zOkM 194 := ⟨List.mem_of_getElem? (i := 1696) rfl, List.mem_of_getElem? (i := 112) rfl, by decide +kernel, by decide +kernel, by decide +kernel, by decide, rfl, Or.inr (Or.inl ⟨rfl, by decide, List.mem_of_getElem? (i := 1695) rfl, List.mem_of_getElem? (i := 65) rfl⟩)⟩
set_option maxRecDepth 100000 in
theorem zOkM195 : zOkM 195 := ⟨List.mem_of_getElem? (i := 1699) rfl, List.mem_of_getElem? (i := 112) rfl, by decide +kernel, by decide +kernel, by decide +kernel, by decide, rfl, Or.inl ⟨rfl, List.mem_of_getElem? (i := 1698) rfl⟩⟩
set_option maxRecDepth 100000 in
theorem zOkM196 : zOkM 196 := ⟨List.mem_of_getElem? (i := 1703) rfl, List.mem_of_getElem? (i := 112) rfl, by decide +kernel, by decide +kernel, by decide +kernel, by decide, rfl, Or.inr (Or.inl ⟨rfl, by decide, List.mem_of_getElem? (i := 1702) rfl, List.mem_of_getElem? (i := 66) rfl⟩)⟩
set_option maxRecDepth 100000 in
theorem zOkM197 : zOkM 197 := ⟨List.mem_of_getElem? (i := 1707) rfl, List.mem_of_getElem? (i := 112) rfl, by decide +kernel, by decide +kernel, by decide +kernel, by decide, rfl, Or.inr (Or.inl ⟨rfl, by decide, List.mem_of_getElem? (i := 1706) rfl, List.mem_of_getElem? (i := 67) rfl⟩)⟩
set_option maxRecDepth 100000 in
theorem zOkM198 : zOkM 198 := ⟨List.mem_of_getElem? (i := 1711) rfl, List.mem_of_getElem? (i := 112) rfl, by decide +kernel, by decide +kernel, by decide +kernel, by decide, rfl, Or.inr (Or.inl ⟨rfl, by decide, List.mem_of_getElem? (i := 1710) rfl, List.mem_of_getElem? (i := 68) rfl⟩)⟩
set_option maxRecDepth 100000 in
theorem zOkM199 : zOkM 199 := ⟨List.mem_of_getElem? (i := 1715) rfl, List.mem_of_getElem? (i := 112) rfl, by decide +kernel, by decide +kernel, by decide +kernel, by decide, rfl, Or.inr (Or.inl ⟨rfl, by decide, List.mem_of_getElem? (i := 1713) rfl, List.mem_of_getElem? (i := 1714) rfl⟩)⟩
set_option maxRecDepth 100000 in
theorem zOkM200 : zOkM 200 := ⟨List.mem_of_getElem? (i := 1719) rfl, List.mem_of_getElem? (i := 112) rfl, by decide +kernel, by decide +kernel, by decide +kernel, by decide, rfl, Or.inr (Or.inl ⟨rfl, by decide, List.mem_of_getElem? (i := 1718) rfl, List.mem_of_getElem? (i := 69) rfl⟩)⟩
set_option maxRecDepth 100000 in
theorem zOkM201 : zOkM 201 := ⟨List.mem_of_getElem? (i := 1722) rfl, List.mem_of_getElem? (i := 112) rfl, by decide +kernel, by decide +kernel, by decide +kernel, by decide, rfl, Or.inl ⟨rfl, List.mem_of_getElem? (i := 1721) rfl⟩⟩
set_option maxRecDepth 100000 in
theorem zOkM202 : zOkM 202 := ⟨List.mem_of_getElem? (i := 1725) rfl, List.mem_of_getElem? (i := 112) rfl, by decide +kernel, by decide +kernel, by decide +kernel, by decide, rfl, Or.inl ⟨rfl, List.mem_of_getElem? (i := 1724) rfl⟩⟩
set_option maxRecDepth 100000 in
theorem zOkM203 : zOkM 203 := ⟨List.mem_of_getElem? (i := 1729) rfl, List.mem_of_getElem? (i := 112) rfl, by decide +kernel, by decide +kernel, by decide +kernel, by decide, rfl, Or.inr (Or.inl ⟨rfl, by decide, List.mem_of_getElem? (i := 1727) rfl, List.mem_of_getElem? (i := 1728) rfl⟩)⟩
set_option maxRecDepth 100000 in
theorem zOkM204 : zOkM 204 := ⟨List.mem_of_getElem? (i := 1733) rfl, List.mem_of_getElem? (i := 112) rfl, by decide +kernel, by decide +kernel, by decide +kernel, by decide, rfl, Or.inr (Or.inl ⟨rfl, by decide, List.mem_of_getElem? (i := 1732) rfl, List.mem_of_getElem? (i := 70) rfl⟩)⟩
set_option maxRecDepth 100000 in
theorem zOkM205 : zOkM 205 := ⟨List.mem_of_getElem? (i := 1737) rfl, List.mem_of_getElem? (i := 112) rfl, by decide +kernel, by decide +kernel, by decide +kernel, by decide, rfl, Or.inr (Or.inl ⟨rfl, by decide, List.mem_of_getElem? (i := 1736) rfl, List.mem_of_getElem? (i := 71) rfl⟩)⟩
set_option maxRecDepth 100000 in
theorem zOkM206 : zOkM 206 := ⟨List.mem_of_getElem? (i := 1741) rfl, List.mem_of_getElem? (i := 112) rfl, by decide +kernel, by decide +kernel, by decide +kernel, by decide, rfl, Or.inr (Or.inl ⟨rfl, by decide, List.mem_of_getElem? (i := 1740) rfl, List.mem_of_getElem? (i := 72) rfl⟩)⟩
set_option maxRecDepth 100000 in
theorem zOkM207 : zOkM 207 := ⟨List.mem_of_getElem? (i := 1745) rfl, List.mem_of_getElem? (i := 112) rfl, by decide +kernel, by decide +kernel, by decide +kernel, by decide, rfl, Or.inr (Or.inl ⟨rfl, by decide, List.mem_of_getElem? (i := 1744) rfl, List.mem_of_getElem? (i := 73) rfl⟩)⟩
set_option maxRecDepth 100000 in
theorem zOkM208 : zOkM 208 := ⟨List.mem_of_getElem? (i := 1749) rfl, List.mem_of_getElem? (i := 112) rfl, by decide +kernel, by decide +kernel, by decide +kernel, by decide, rfl, Or.inr (Or.inl ⟨rfl, by decide, List.mem_of_getElem? (i := 1748) rfl, List.mem_of_getElem? (i := 74) rfl⟩)⟩
set_option maxRecDepth 100000 in
theorem zOkM209 : zOkM 209 := ⟨List.mem_of_getElem? (i := 1753) rfl, List.mem_of_getElem? (i := 112) rfl, by decide +kernel, by decide +kernel, by decide +kernel, by decide, rfl, Or.inr (Or.inl ⟨rfl, by decide, List.mem_of_getElem? (i := 1752) rfl, List.mem_of_getElem? (i := 75) rfl⟩)⟩
set_option maxRecDepth 100000 in
theorem zOkM210 : zOkM 210 := ⟨List.mem_of_getElem? (i := 1757) rfl, List.mem_of_getElem? (i := 112) rfl, by decide +kernel, by decide +kernel, by decide +kernel, by decide, rfl, Or.inr (Or.inl ⟨rfl, by decide, List.mem_of_getElem? (i := 1756) rfl, List.mem_of_getElem? (i := 76) rfl⟩)⟩
set_option maxRecDepth 100000 in
theorem zOkM211 : zOkM 211 := ⟨List.mem_of_getElem? (i := 1761) rfl, List.mem_of_getElem? (i := 112) rfl, by decide +kernel, by decide +kernel, by decide +kernel, by decide, rfl, Or.inr (Or.inl ⟨rfl, by decide, List.mem_of_getElem? (i := 1760) rfl, List.mem_of_getElem? (i := 77) rfl⟩)⟩
set_option maxRecDepth 100000 in
theorem zOkM212 : zOkM 212 := ⟨List.mem_of_getElem? (i := 1764) rfl, List.mem_of_getElem? (i := 112) rfl, by decide +kernel, by decide +kernel, by decide +kernel, by decide, rfl, Or.inl ⟨rfl, List.mem_of_getElem? (i := 1763) rfl⟩⟩
set_option maxRecDepth 100000 in
theorem zOkM213 : zOkM 213 := ⟨List.mem_of_getElem? (i := 1767) rfl, List.mem_of_getElem? (i := 112) rfl, by decide +kernel, by decide +kernel, by decide +kernel, by decide, rfl, Or.inl ⟨rfl, List.mem_of_getElem? (i := 1766) rfl⟩⟩
set_option maxRecDepth 100000 in
theorem zOkM214 : zOkM 214 := ⟨List.mem_of_getElem? (i := 1771) rfl, List.mem_of_getElem? (i := 112) rfl, by decide +kernel, by decide +kernel, by decide +kernel, by decide, rfl, Or.inr (Or.inl ⟨rfl, by decide, List.mem_of_getElem? (i := 1770) rfl, List.mem_of_getElem? (i := 78) rfl⟩)⟩
set_option maxRecDepth 100000 in
theorem zOkM215 : zOkM 215 := ⟨List.mem_of_getElem? (i := 1774) rfl, List.mem_of_getElem? (i := 112) rfl, by decide +kernel, by decide +kernel, by decide +kernel, by decide, rfl, Or.inl ⟨rfl, List.mem_of_getElem? (i := 1773) rfl⟩⟩
set_option maxRecDepth 100000 in
theorem zOkM216 : zOkM 216 := ⟨List.mem_of_getElem? (i := 1780) rfl, List.mem_of_getElem? (i := 112) rfl, by decide +kernel, by decide +kernel, by decide +kernel, by decide, rfl, Or.inr (Or.inl ⟨rfl, by decide, List.mem_of_getElem? (i := 1779) rfl, List.mem_of_getElem? (i := 79) rfl⟩)⟩
set_option maxRecDepth 100000 in
theorem zOkM217 : zOkM 217 := ⟨List.mem_of_getElem? (i := 1784) rfl, List.mem_of_getElem? (i := 112) rfl, by decide +kernel, by decide +kernel, by decide +kernel, by decide, rfl, Or.inr (Or.inl ⟨rfl, by decide, List.mem_of_getElem? (i := 1783) rfl, List.mem_of_getElem? (i := 80) rfl⟩)⟩
set_option maxRecDepth 100000 in
theorem zOkM218 : zOkM 218 := ⟨List.mem_of_getElem? (i := 1788) rfl, List.mem_of_getElem? (i := 112) rfl, by decide +kernel, by decide +kernel, by decide +kernel, by decide, rfl, Or.inr (Or.inl ⟨rfl, by decide, List.mem_of_getElem? (i := 1787) rfl, List.mem_of_getElem? (i := 81) rfl⟩)⟩
set_option maxRecDepth 100000 in
theorem zOkM219 : zOkM 219 := ⟨List.mem_of_getElem? (i := 1792) rfl, List.mem_of_getElem? (i := 112) rfl, by decide +kernel, by decide +kernel, by decide +kernel, by decide, rfl, Or.inr (Or.inl ⟨rfl, by decide, List.mem_of_getElem? (i := 1791) rfl, List.mem_of_getElem? (i := 82) rfl⟩)⟩
set_option maxRecDepth 100000 in
theorem zOkM220 : zOkM 220 := ⟨List.mem_of_getElem? (i := 1796) rfl, List.mem_of_getElem? (i := 112) rfl, by decide +kernel, by decide +kernel, by decide +kernel, by decide, rfl, Or.inr (Or.inl ⟨rfl, by decide, List.mem_of_getElem? (i := 1795) rfl, List.mem_of_getElem? (i := 83) rfl⟩)⟩
set_option maxRecDepth 100000 in
theorem zOkM221 : zOkM 221 := ⟨List.mem_of_getElem? (i := 1800) rfl, List.mem_of_getElem? (i := 112) rfl, by decide +kernel, by decide +kernel, by decide +kernel, by decide, rfl, Or.inr (Or.inl ⟨rfl, by decide, List.mem_of_getElem? (i := 1799) rfl, List.mem_of_getElem? (i := 84) rfl⟩)⟩
set_option maxRecDepth 100000 in
theorem zOkM222 : zOkM 222 := ⟨List.mem_of_getElem? (i := 1804) rfl, List.mem_of_getElem? (i := 112) rfl, by decide +kernel, by decide +kernel, by decide +kernel, by decide, rfl, Or.inr (Or.inl ⟨rfl, by decide, List.mem_of_getElem? (i := 1803) rfl, List.mem_of_getElem? (i := 85) rfl⟩)⟩
set_option maxRecDepth 100000 in
theorem zOkM223 : zOkM 223 := ⟨List.mem_of_getElem? (i := 1808) rfl, List.mem_of_getElem? (i := 112) rfl, by decide +kernel, by decide +kernel, by decide +kernel, by decide, rfl, Or.inr (Or.inl ⟨rfl, by decide, List.mem_of_getElem? (i := 1807) rfl, List.mem_of_getElem? (i := 86) rfl⟩)⟩
set_option maxRecDepth 100000 in
theorem zOkM224 : zOkM 224 := ⟨List.mem_of_getElem? (i := 1812) rfl, List.mem_of_getElem? (i := 112) rfl, by decide +kernel, by decide +kernel, by decide +kernel, by decide, rfl, Or.inr (Or.inl ⟨rfl, by decide, List.mem_of_getElem? (i := 1811) rfl, List.mem_of_getElem? (i := 87) rfl⟩)⟩
set_option maxRecDepth 100000 in
theorem zOkM225 : zOkM 225 := ⟨List.mem_of_getElem? (i := 1816) rfl, List.mem_of_getElem? (i := 112) rfl, by decide +kernel, by decide +kernel, by decide +kernel, by decide, rfl, Or.inr (Or.inl ⟨rfl, by decide, List.mem_of_getElem? (i := 1815) rfl, List.mem_of_getElem? (i := 88) rfl⟩)⟩
set_option maxRecDepth 100000 in
theorem zOkM226 : zOkM 226 := ⟨List.mem_of_getElem? (i := 1820) rfl, List.mem_of_getElem? (i := 112) rfl, by decide +kernel, by decide +kernel, by decide +kernel, by decide, rfl, Or.inr (Or.inl ⟨rfl, by decide, List.mem_of_getElem? (i := 1819) rfl, List.mem_of_getElem? (i := 89) rfl⟩)⟩
set_option maxRecDepth 100000 in
theorem zOkM227 : zOkM 227 := ⟨List.mem_of_getElem? (i := 1824) rfl, List.mem_of_getElem? (i := 112) rfl, by decide +kernel, by decide +kernel, by decide +kernel, by decide, rfl, Or.inr (Or.inl ⟨rfl, by decide, List.mem_of_getElem? (i := 1823) rfl, List.mem_of_getElem? (i := 90) rfl⟩)⟩
set_option maxRecDepth 100000 in
theorem zOkM228 : zOkM 228 := ⟨List.mem_of_getElem? (i := 1829) rfl, List.mem_of_getElem? (i := 112) rfl, by decide +kernel, by decide +kernel, by decide +kernel, by decide, rfl, Or.inr (Or.inl ⟨rfl, by decide, List.mem_of_getElem? (i := 1828) rfl, List.mem_of_getElem? (i := 91) rfl⟩)⟩
set_option maxRecDepth 100000 in
theorem zOkM229 : zOkM 229 := ⟨List.mem_of_getElem? (i := 1833) rfl, List.mem_of_getElem? (i := 112) rfl, by decide +kernel, by decide +kernel, by decide +kernel, by decide, rfl, Or.inr (Or.inl ⟨rfl, by decide, List.mem_of_getElem? (i := 1832) rfl, List.mem_of_getElem? (i := 92) rfl⟩)⟩
set_option maxRecDepth 100000 in
theorem zOkM230 : zOkM 230 := ⟨List.mem_of_getElem? (i := 1837) rfl, List.mem_of_getElem? (i := 112) rfl, by decide +kernel, by decide +kernel, by decide +kernel, by decide, rfl, Or.inr (Or.inl ⟨rfl, by decide, List.mem_of_getElem? (i := 1836) rfl, List.mem_of_getElem? (i := 93) rfl⟩)⟩
set_option maxRecDepth 100000 in
theorem zOkM231 : zOkM 231 := ⟨List.mem_of_getElem? (i := 1841) rfl, List.mem_of_getElem? (i := 112) rfl, by decide +kernel, by decide +kernel, by decide +kernel, by decide, rfl, Or.inr (Or.inl ⟨rfl, by decide, List.mem_of_getElem? (i := 1839) rfl, List.mem_of_getElem? (i := 1840) rfl⟩)⟩
set_option maxRecDepth 100000 in
theorem zOkM232 : zOkM 232 := ⟨List.mem_of_getElem? (i := 1845) rfl, List.mem_of_getElem? (i := 112) rfl, by decide +kernel, by decide +kernel, by decide +kernel, by decide, rfl, Or.inr (Or.inl ⟨rfl, by decide, List.mem_of_getElem? (i := 1843) rfl, List.mem_of_getElem? (i := 1844) rfl⟩)⟩
set_option maxRecDepth 100000 in
theorem zOkM233 : zOkM 233 := ⟨List.mem_of_getElem? (i := 1849) rfl, List.mem_of_getElem? (i := 112) rfl, by decide +kernel, by decide +kernel, by decide +kernel, by decide, rfl, Or.inr (Or.inl ⟨rfl, by decide, List.mem_of_getElem? (i := 1847) rfl, List.mem_of_getElem? (i := 1848) rfl⟩)⟩
set_option maxRecDepth 100000 in
theorem zOkM234 : zOkM 234 := ⟨List.mem_of_getElem? (i := 1854) rfl, List.mem_of_getElem? (i := 112) rfl, by decide +kernel, by decide +kernel, by decide +kernel, by decide, rfl, Or.inr (Or.inl ⟨rfl, by decide, List.mem_of_getElem? (i := 1852) rfl, List.mem_of_getElem? (i := 1853) rfl⟩)⟩
set_option maxRecDepth 100000 in
theorem zOkM235 : zOkM 235 := ⟨List.mem_of_getElem? (i := 1858) rfl, List.mem_of_getElem? (i := 112) rfl, by decide +kernel, by decide +kernel, by decide +kernel, by decide, rfl, Or.inr (Or.inl ⟨rfl, by decide, List.mem_of_getElem? (i := 1857) rfl, List.mem_of_getElem? (i := 94) rfl⟩)⟩
set_option maxRecDepth 100000 in
theorem zOkM236 : zOkM 236 := ⟨List.mem_of_getElem? (i := 1862) rfl, List.mem_of_getElem? (i := 112) rfl, by decide +kernel, by decide +kernel, by decide +kernel, by decide, rfl, Or.inr (Or.inl ⟨rfl, by decide, List.mem_of_getElem? (i := 1861) rfl, List.mem_of_getElem? (i := 95) rfl⟩)⟩
set_option maxRecDepth 100000 in
theorem zOkM237 : zOkM 237 := ⟨List.mem_of_getElem? (i := 1866) rfl, List.mem_of_getElem? (i := 112) rfl, by decide +kernel, by decide +kernel, by decide +kernel, by decide, rfl, Or.inr (Or.inl ⟨rfl, by decide, List.mem_of_getElem? (i := 1864) rfl, List.mem_of_getElem? (i := 1865) rfl⟩)⟩
set_option maxRecDepth 100000 in
theorem zOkM238 : zOkM 238 := ⟨List.mem_of_getElem? (i := 1870) rfl, List.mem_of_getElem? (i := 112) rfl, by decide +kernel, by decide +kernel, by decide +kernel, by decide, rfl, Or.inr (Or.inl ⟨rfl, by decide, List.mem_of_getElem? (i := 1868) rfl, List.mem_of_getElem? (i := 1869) rfl⟩)⟩
set_option maxRecDepth 100000 in
theorem zOkM239 : zOkM 239 := ⟨List.mem_of_getElem? (i := 1874) rfl, List.mem_of_getElem? (i := 112) rfl, by decide +kernel, by decide +kernel, by decide +kernel, by decide, rfl, Or.inr (Or.inl ⟨rfl, by decide, List.mem_of_getElem? (i := 1872) rfl, List.mem_of_getElem? (i := 1873) rfl⟩)⟩
set_option maxRecDepth 100000 in
theorem zOkM240 : zOkM 240 := ⟨List.mem_of_getElem? (i := 1878) rfl, List.mem_of_getElem? (i := 112) rfl, by decide +kernel, by decide +kernel, by decide +kernel, by decide, rfl, Or.inr (Or.inl ⟨rfl, by decide, List.mem_of_getElem? (i := 1876) rfl, List.mem_of_getElem? (i := 1877) rfl⟩)⟩
set_option maxRecDepth 100000 in
theorem zOkM241 : zOkM 241 := ⟨List.mem_of_getElem? (i := 1882) rfl, List.mem_of_getElem? (i := 112) rfl, by decide +kernel, by decide +kernel, by decide +kernel, by decide, rfl, Or.inr (Or.inl ⟨rfl, by decide, List.mem_of_getElem? (i := 1880) rfl, List.mem_of_getElem? (i := 1881) rfl⟩)⟩
set_option maxRecDepth 100000 in
theorem zOkM242 : zOkM 242 := ⟨List.mem_of_getElem? (i := 1886) rfl, List.mem_of_getElem? (i := 112) rfl, by decide +kernel, by decide +kernel, by decide +kernel, by decide, rfl, Or.inr (Or.inl ⟨rfl, by decide, List.mem_of_getElem? (i := 1884) rfl, List.mem_of_getElem? (i := 1885) rfl⟩)⟩
set_option maxRecDepth 100000 in
theorem zOkM243 : zOkM 243 := ⟨List.mem_of_getElem? (i := 1890) rfl, List.mem_of_getElem? (i := 112) rfl, by decide +kernel, by decide +kernel, by decide +kernel, by decide, rfl, Or.inr (Or.inl ⟨rfl, by decide, List.mem_of_getElem? (i := 1889) rfl, List.mem_of_getElem? (i := 96) rfl⟩)⟩
set_option maxRecDepth 100000 in
theorem zOkM244 : zOkM 244 := ⟨List.mem_of_getElem? (i := 1894) rfl, List.mem_of_getElem? (i := 112) rfl, by decide +kernel, by decide +kernel, by decide +kernel, by decide, rfl, Or.inr (Or.inl ⟨rfl, by decide, List.mem_of_getElem? (i := 1893) rfl, List.mem_of_getElem? (i := 97) rfl⟩)⟩
set_option maxRecDepth 100000 in
theorem zOkM245 : zOkM 245 := ⟨List.mem_of_getElem? (i := 1898) rfl, List.mem_of_getElem? (i := 112) rfl, by decide +kernel, by decide +kernel, by decide +kernel, by decide, rfl, Or.inr (Or.inl ⟨rfl, by decide, List.mem_of_getElem? (i := 1897) rfl, List.mem_of_getElem? (i := 98) rfl⟩)⟩
set_option maxRecDepth 100000 in
theorem zOkM246 : zOkM 246 := ⟨List.mem_of_getElem? (i := 1903) rfl, List.mem_of_getElem? (i := 112) rfl, by decide +kernel, by decide +kernel, by decide +kernel, by decide, rfl, Or.inr (Or.inl ⟨rfl, by decide, List.mem_of_getElem? (i := 1901) rfl, List.mem_of_getElem? (i := 1902) rfl⟩)⟩
set_option maxRecDepth 100000 in
theorem zOkM247 : zOkM 247 := ⟨List.mem_of_getElem? (i := 1907) rfl, List.mem_of_getElem? (i := 112) rfl, by decide +kernel, by decide +kernel, by decide +kernel, by decide, rfl, Or.inr (Or.inl ⟨rfl, by decide, List.mem_of_getElem? (i := 1905) rfl, List.mem_of_getElem? (i := 1906) rfl⟩)⟩
set_option maxRecDepth 100000 in
theorem zOkM248 : zOkM 248 := ⟨List.mem_of_getElem? (i := 1911) rfl, List.mem_of_getElem? (i := 112) rfl, by decide +kernel, by decide +kernel, by decide +kernel, by decide, rfl, Or.inr (Or.inl ⟨rfl, by decide, List.mem_of_getElem? (i := 1909) rfl, List.mem_of_getElem? (i := 1910) rfl⟩)⟩
set_option maxRecDepth 100000 in
theorem zOkM249 : zOkM 249 := ⟨List.mem_of_getElem? (i := 1915) rfl, List.mem_of_getElem? (i := 112) rfl, by decide +kernel, by decide +kernel, by decide +kernel, by decide, rfl, Or.inr (Or.inl ⟨rfl, by decide, List.mem_of_getElem? (i := 1913) rfl, List.mem_of_getElem? (i := 1914) rfl⟩)⟩
set_option maxRecDepth 100000 in
theorem zOkM250 : zOkM 250 := ⟨List.mem_of_getElem? (i := 1919) rfl, List.mem_of_getElem? (i := 112) rfl, by decide +kernel, by decide +kernel, by decide +kernel, by decide, rfl, Or.inr (Or.inl ⟨rfl, by decide, List.mem_of_getElem? (i := 1917) rfl, List.mem_of_getElem? (i := 1918) rfl⟩)⟩
set_option maxRecDepth 100000 in
theorem zOkM251 : zOkM 251 := ⟨List.mem_of_getElem? (i := 1923) rfl, List.mem_of_getElem? (i := 112) rfl, by decide +kernel, by decide +kernel, by decide +kernel, by decide, rfl, Or.inr (Or.inl ⟨rfl, by decide, List.mem_of_getElem? (i := 1921) rfl, List.mem_of_getElem? (i := 1922) rfl⟩)⟩
set_option maxRecDepth 100000 in
theorem zOkM252 : zOkM 252 := ⟨List.mem_of_getElem? (i := 1928) rfl, List.mem_of_getElem? (i := 112) rfl, by decide +kernel, by decide +kernel, by decide +kernel, by decide, rfl, Or.inr (Or.inl ⟨rfl, by decide, List.mem_of_getElem? (i := 1926) rfl, List.mem_of_getElem? (i := 1927) rfl⟩)⟩
set_option maxRecDepth 100000 in
theorem zOkM253 : zOkM 253 := ⟨List.mem_of_getElem? (i := 1933) rfl, List.mem_of_getElem? (i := 112) rfl, by decide +kernel, by decide +kernel, by decide +kernel, by decide, rfl, Or.inr (Or.inl ⟨rfl, by decide, List.mem_of_getElem? (i := 1931) rfl, List.mem_of_getElem? (i := 1932) rfl⟩)⟩
set_option maxRecDepth 100000 in
theorem zOkM254 : zOkM 254 := ⟨List.mem_of_getElem? (i := 1937) rfl, List.mem_of_getElem? (i := 112) rfl, by decide +kernel, by decide +kernel, by decide +kernel, by decide, rfl, Or.inr (Or.inl ⟨rfl, by decide, List.mem_of_getElem? (i := 1935) rfl, List.mem_of_getElem? (i := 1936) rfl⟩)⟩
set_option maxRecDepth 100000 in
theorem zOkM_b0 : ∀ z, 0 ≤ z → z < 32 → zOkM z := by
  intro z h1 h2
  rcases (show z = 0 ∨ z = 1 ∨ z = 2 ∨ z = 3 ∨ z = 4 ∨ z = 5 ∨ z = 6 ∨ z = 7 ∨ z = 8 ∨ z = 9 ∨ z = 10 ∨ z = 11 ∨ z = 12 ∨ z = 13 ∨ z = 14 ∨ z = 15 ∨ z = 16 ∨ z = 17 ∨ z = 18 ∨ z = 19 ∨ z = 20 ∨ z = 21 ∨ z = 22 ∨ z = 23 ∨ z = 24 ∨ z = 25 ∨ z = 26 ∨ z = 27 ∨ z = 28 ∨ z = 29 ∨ z = 30 ∨ z = 31 by omega) with rfl | rfl | rfl | rfl | rfl | rfl | rfl | rfl | rfl | rfl | rfl | rfl | rfl | rfl | rfl | rfl | rfl | rfl | rfl | rfl | rfl | rfl | rfl | rfl | rfl | rfl | rfl | rfl | rfl | rfl | rfl | rfl
  · exact zOkM0
  · exact zOkM1
  · exact zOkM2
  · exact zOkM3
  · exact zOkM4
  · exact zOkM5
  · exact zOkM6
  · exact zOkM7
  · exact zOkM8
  · exact zOkM9
  · exact zOkM10
  · exact zOkM11
  · exact zOkM12
  · exact zOkM13
  · exact zOkM14
  · exact zOkM15
  · exact zOkM16
  · exact zOkM17
  · exact zOkM18
  · exact zOkM19
  · exact zOkM20
  · exact zOkM21
  · exact zOkM22
  · exact zOkM23
  · exact zOkM24
  · exact zOkM25
  · exact zOkM26
  · exact zOkM27
  · exact zOkM28
  · exact zOkM29
  · exact zOkM30
  · exact zOkM31
set_option maxRecDepth 100000 in
theorem zOkM_b1 : ∀ z, 32 ≤ z → z < 64 → zOkM z := by
  intro z h1 h2
  rcases (show z = 32 ∨ z = 33 ∨ z = 34 ∨ z = 35 ∨ z = 36 ∨ z = 37 ∨ z = 38 ∨ z = 39 ∨ z = 40 ∨ z = 41 ∨ z = 42 ∨ z = 43 ∨ z = 44 ∨ z = 45 ∨ z = 46 ∨ z = 47 ∨ z = 48 ∨ z = 49 ∨ z = 50 ∨ z = 51 ∨ z = 52 ∨ z = 53 ∨ z = 54 ∨ z = 55 ∨ z = 56 ∨ z = 57 ∨ z = 58 ∨ z = 59 ∨ z = 60 ∨ z = 61 ∨ z = 62 ∨ z = 63 by omega) with rfl | rfl | rfl | rfl | rfl | rfl | rfl | rfl | rfl | rfl | rfl | rfl | rfl | rfl | rfl | rfl | rfl | rfl | rfl | rfl | rfl | rfl | rfl | rfl | rfl | rfl | rfl | rfl | rfl | rfl | rfl | rfl
  · exact zOkM32
  · exact zOkM33
  · exact zOkM34
  · exact zOkM35
  · exact zOkM36
  · exact zOkM37
  · exact zOkM38
  · exact zOkM39
  · exact zOkM40
  · exact zOkM41
  · exact zOkM42
  · exact zOkM43
  · exact zOkM44
  · exact zOkM45
  · exact zOkM46
  · exact zOkM47
  · exact zOkM48
  · exact zOkM49
  · exact zOkM50
  · exact zOkM51
  · exact zOkM52
  · exact zOkM53
  · exact zOkM54
  · exact zOkM55
  · exact zOkM56
  · exact zOkM57
  · exact zOkM58
  · exact zOkM59
  · exact zOkM60
  · exact zOkM61
  · exact zOkM62
  · exact zOkM63
set_option maxRecDepth 100000 in
theorem zOkM_b2 : ∀ z, 64 ≤ z → z < 96 → zOkM z := by
  intro z h1 h2
  rcases (show z = 64 ∨ z = 65 ∨ z = 66 ∨ z = 67 ∨ z = 68 ∨ z = 69 ∨ z = 70 ∨ z = 71 ∨ z = 72 ∨ z = 73 ∨ z = 74 ∨ z = 75 ∨ z = 76 ∨ z = 77 ∨ z = 78 ∨ z = 79 ∨ z = 80 ∨ z = 81 ∨ z = 82 ∨ z = 83 ∨ z = 84 ∨ z = 85 ∨ z = 86 ∨ z = 87 ∨ z = 88 ∨ z = 89 ∨ z = 90 ∨ z = 91 ∨ z = 92 ∨ z = 93 ∨ z = 94 ∨ z = 95 by omega) with rfl | rfl | rfl | rfl | rfl | rfl | rfl | rfl | rfl | rfl | rfl | rfl | rfl | rfl | rfl | rfl | rfl | rfl | rfl | rfl | rfl | rfl | rfl | rfl | rfl | rfl | rfl | rfl | rfl | rfl | rfl | rfl
  · exact zOkM64
  · exact zOkM65
  · exact zOkM66
  · exact zOkM67
  · exact zOkM68
  · exact zOkM69
  · exact zOkM70
  · exact zOkM71
  · exact zOkM72
  · exact zOkM73
  · exact zOkM74
  · exact zOkM75
  · exact zOkM76
  · exact zOkM77
  · exact zOkM78
  · exact zOkM79
  · exact zOkM80
  · exact zOkM81
  · exact zOkM82
  · exact zOkM83
  · exact zOkM84
  · exact zOkM85
  · exact zOkM86
  · exact zOkM87
  · exact zOkM88
  · exact zOkM89
  · exact zOkM90
  · exact zOkM91
  · exact zOkM92
  · exact zOkM93
  · exact zOkM94
  · exact zOkM95
set_option maxRecDepth 100000 in
theorem zOkM_b3 : ∀ z, 96 ≤ z → z < 128 → zOkM z := by
  intro z h1 h2
  rcases (show z = 96 ∨ z = 97 ∨ z = 98 ∨ z = 99 ∨ z = 100 ∨ z = 101 ∨ z = 102 ∨ z = 103 ∨ z = 104 ∨ z = 105 ∨ z = 106 ∨ z = 107 ∨ z = 108 ∨ z = 109 ∨ z = 110 ∨ z = 111 ∨ z = 112 ∨ z = 113 ∨ z = 114 ∨ z = 115 ∨ z = 116 ∨ z = 117 ∨ z = 118 ∨ z = 119 ∨ z = 120 ∨ z = 121 ∨ z = 122 ∨ z = 123 ∨ z = 124 ∨ z = 125 ∨ z = 126 ∨ z = 127 by omega) with rfl | rfl | rfl | rfl | rfl | rfl | rfl | rfl | rfl | rfl | rfl | rfl | rfl | rfl | rfl | rfl | rfl | rfl | rfl | rfl | rfl | rfl | rfl | rfl | rfl | rfl | rfl | rfl | rfl | rfl | rfl | rfl
  · exact zOkM96
  · exact zOkM97
  · exact zOkM98
  · exact zOkM99
  · exact zOkM100
  · exact zOkM101
  · exact zOkM102
  · exact zOkM103
  · exact zOkM104
  · exact zOkM105
  · exact zOkM106
  · exact zOkM107
  · exact zOkM108
  · exact zOkM109
  · exact zOkM110
  · exact zOkM111
  · exact zOkM112
  · exact zOkM113
  · exact zOkM114
  · exact zOkM115
  · exact zOkM116
  · exact zOkM117
  · exact zOkM118
  · exact zOkM119
  · exact zOkM120
  · exact zOkM121
  · exact zOkM122
  · exact zOkM123
  · exact zOkM124
  · exact zOkM125
  · exact zOkM126
  · exact zOkM127
set_option maxRecDepth 100000 in
theorem zOkM_b4 : ∀ z, 128 ≤ z → z < 160 → zOkM z := by
  intro z h1 h2
  rcases (show z = 128 ∨ z = 129 ∨ z = 130 ∨ z = 131 ∨ z = 132 ∨ z = 133 ∨ z = 134 ∨ z = 135 ∨ z = 136 ∨ z = 137 ∨ z = 138 ∨ z = 139 ∨ z = 140 ∨ z = 141 ∨ z = 142 ∨ z = 143 ∨ z = 144 ∨ z = 145 ∨ z = 146 ∨ z = 147 ∨ z = 148 ∨ z = 149 ∨ z = 150 ∨ z = 151 ∨ z = 152 ∨ z = 153 ∨ z = 154 ∨ z = 155 ∨ z = 156 ∨ z = 157 ∨ z = 158 ∨ z = 159 by omega) with rfl | rfl | rfl | rfl | rfl | rfl | rfl | rfl | rfl | rfl | rfl | rfl | rfl | rfl | rfl | rfl | rfl | rfl | rfl | rfl | rfl | rfl | rfl | rfl | rfl | rfl | rfl | rfl | rfl | rfl | rfl | rfl
  · exact zOkM128
  · exact zOkM129
  · exact zOkM130
  · exact zOkM131
  · exact zOkM132
  · exact zOkM133
  · exact zOkM134
  · exact zOkM135
  · exact zOkM136
  · exact zOkM137
  · exact zOkM138
  · exact zOkM139
  · exact zOkM140
  · exact zOkM141
  · exact zOkM142
  · exact zOkM143
  · exact zOkM144
  · exact zOkM145
  · exact zOkM146
  · exact zOkM147
  · exact zOkM148
  · exact zOkM149
  · exact zOkM150
  · exact zOkM151
  · exact zOkM152
  · exact zOkM153
  · exact zOkM154
  · exact zOkM155
  · exact zOkM156
  · exact zOkM157
  · exact zOkM158
  · exact zOkM159
set_option maxRecDepth 100000 in
theorem zOkM_b5 : ∀ z, 160 ≤ z → z < 192 → zOkM z := by
  intro z h1 h2
  rcases (show z = 160 ∨ z = 161 ∨ z = 162 ∨ z = 163 ∨ z = 164 ∨ z = 165 ∨ z = 166 ∨ z = 167 ∨ z = 168 ∨ z = 169 ∨ z = 170 ∨ z = 171 ∨ z = 172 ∨ z = 173 ∨ z = 174 ∨ z = 175 ∨ z = 176 ∨ z = 177 ∨ z = 178 ∨ z = 179 ∨ z = 180 ∨ z = 181 ∨ z = 182 ∨ z = 183 ∨ z = 184 ∨ z = 185 ∨ z = 186 ∨ z = 187 ∨ z = 188 ∨ z = 189 ∨ z = 190 ∨ z = 191 by omega) with rfl | rfl | rfl | rfl | rfl | rfl | rfl | rfl | rfl | rfl | rfl | rfl | rfl | rfl | rfl | rfl | rfl | rfl | rfl | rfl | rfl | rfl | rfl | rfl | rfl | rfl | rfl | rfl | rfl | rfl | rfl | rfl
  · exact zOkM160
  · exact zOkM161
  · exact zOkM162
  · exact zOkM163
  · exact zOkM164
  · exact zOkM165
  · exact zOkM166
  · exact zOkM167
  · exact zOkM168
  · exact zOkM169
  · exact zOkM170
  · exact zOkM171
  · exact zOkM172
  · exact zOkM173
  · exact zOkM174
  · exact zOkM175
  · exact zOkM176
  · exact zOkM177
  · exact zOkM178
  · exact zOkM179
  · exact zOkM180
  · exact zOkM181
  · exact zOkM182
  · exact zOkM183
  · exact zOkM184
  · exact zOkM185
  · exact zOkM186
  · exact zOkM187
  · exact zOkM188
  · exact zOkM189
  · exact zOkM190
  · exact zOkM191
set_option maxRecDepth 100000 in
theorem zOkM_b6 : ∀ z, 192 ≤ z → z < 224 → zOkM z := by
  intro z h1 h2
  rcases (show z = 192 ∨ z = 193 ∨ z = 194 ∨ z = 195 ∨ z = 196 ∨ z = 197 ∨ z = 198 ∨ z = 199 ∨ z = 200 ∨ z = 201 ∨ z = 202 ∨ z = 203 ∨ z = 204 ∨ z = 205 ∨ z = 206 ∨ z = 207 ∨ z = 208 ∨ z = 209 ∨ z = 210 ∨ z = 211 ∨ z = 212 ∨ z = 213 ∨ z = 214 ∨ z = 215 ∨ z = 216 ∨ z = 217 ∨ z = 218 ∨ z = 219 ∨ z = 220 ∨ z = 221 ∨ z = 222 ∨ z = 223 by omega) with rfl | rfl | rfl | rfl | rfl | rfl | rfl | rfl | rfl | rfl | rfl | rfl | rfl | rfl | rfl | rfl | rfl | rfl | rfl | rfl | rfl | rfl | rfl | rfl | rfl | rfl | rfl | rfl | rfl | rfl | rfl | rfl
  · exact zOkM192
  · exact zOkM193
  · exact zOkM194
  · exact zOkM195
  · exact zOkM196
  · exact zOkM197
  · exact zOkM198
  · exact zOkM199
  · exact zOkM200
  · exact zOkM201
  · exact zOkM202
  · exact zOkM203
  · exact zOkM204
  · exact zOkM205
  · exact zOkM206
  · exact zOkM207
  · exact zOkM208
  · exact zOkM209
  · exact zOkM210
  · exact zOkM211
  · exact zOkM212
  · exact zOkM213
  · exact zOkM214
  · exact zOkM215
  · exact zOkM216
  · exact zOkM217
  · exact zOkM218
  · exact zOkM219
  · exact zOkM220
  · exact zOkM221
  · exact zOkM222
  · exact zOkM223
set_option maxRecDepth 100000 in
theorem zOkM_b7 : ∀ z, 224 ≤ z → z < 255 → zOkM z := by
  intro z h1 h2
  rcases (show z = 224 ∨ z = 225 ∨ z = 226 ∨ z = 227 ∨ z = 228 ∨ z = 229 ∨ z = 230 ∨ z = 231 ∨ z = 232 ∨ z = 233 ∨ z = 234 ∨ z = 235 ∨ z = 236 ∨ z = 237 ∨ z = 238 ∨ z = 239 ∨ z = 240 ∨ z = 241 ∨ z = 242 ∨ z = 243 ∨ z = 244 ∨ z = 245 ∨ z = 246 ∨ z = 247 ∨ z = 248 ∨ z = 249 ∨ z = 250 ∨ z = 251 ∨ z = 252 ∨ z = 253 ∨ z = 254 by omega) with rfl | rfl | rfl | rfl | rfl | rfl | rfl | rfl | rfl | rfl | rfl | rfl | rfl | rfl | rfl | rfl | rfl | rfl | rfl | rfl | rfl | rfl | rfl | rfl | rfl | rfl | rfl | rfl | rfl | rfl | rfl
  · exact zOkM224
  · exact zOkM225
  · exact zOkM226
  · exact zOkM227
  · exact zOkM228
  · exact zOkM229
  · exact zOkM230
  · exact zOkM231
  · exact zOkM232
  · exact zOkM233
  · exact zOkM234
  · exact zOkM235
  · exact zOkM236
  · exact zOkM237
  · exact zOkM238
  · exact zOkM239
  · exact zOkM240
  · exact zOkM241
  · exact zOkM242
  · exact zOkM243
  · exact zOkM244
  · exact zOkM245
  · exact zOkM246
  · exact zOkM247
  · exact zOkM248
  · exact zOkM249
  · exact zOkM250
  · exact zOkM251
  · exact zOkM252
  · exact zOkM253
  · exact zOkM254
set_option maxRecDepth 100000 in
theorem zOkM_all : ∀ z, z < 255 → zOkM z := by
  intro z h
  by_cases h0 : z < 32
  · exact zOkM_b0 z (by omega) h0
  by_cases h1 : z < 64
  · exact zOkM_b1 z (by omega) h1
  by_cases h2 : z < 96
  · exact zOkM_b2 z (by omega) h2
  by_cases h3 : z < 128
  · exact zOkM_b3 z (by omega) h3
  by_cases h4 : z < 160
  · exact zOkM_b4 z (by omega) h4
  by_cases h5 : z < 192
  · exact zOkM_b5 z (by omega) h5
  by_cases h6 : z < 224
  · exact zOkM_b6 z (by omega) h6
  exact zOkM_b7 z (by omega) h
def zTB : List Cond := lw_tbl.filter goodWord
set_option maxRecDepth 100000 in
theorem zgd {w : Cond} (h : w ∈ lw_tbl) (g : goodWord w = true) : w ∈ zTB := List.mem_filter.mpr ⟨h, g⟩
set_option maxRecDepth 100000 in
theorem zGI {ws : List Cond} (h : ∀ w ∈ ws, w ∈ zTB) : GoodIn zTB ws := fun w hw => ⟨h w hw, good_of_word (List.mem_filter.mp (h w hw)).2⟩
set_option maxRecDepth 100000 in
theorem zw_mini : Cond.initialized "java/lang/Math" ∈ lw_tbl := List.mem_of_getElem? (i := 113) rfl
set_option maxRecDepth 100000 in
theorem zw_min_s : Cond.static Lib.Math.min.name ∈ lw_tbl := List.mem_of_getElem? (i := 701) rfl
set_option maxRecDepth 100000 in
theorem zw_min_c : Cond.code Lib.Math.min.name Lib.Math.min.code 2 (some .int) ∈ lw_tbl := List.mem_of_getElem? (i := 702) rfl
set_option maxRecDepth 100000 in
theorem zw_max_s : Cond.static Lib.Math.max.name ∈ lw_tbl := List.mem_of_getElem? (i := 720) rfl
set_option maxRecDepth 100000 in
theorem zw_max_c : Cond.code Lib.Math.max.name Lib.Math.max.code 2 (some .int) ∈ lw_tbl := List.mem_of_getElem? (i := 721) rfl
set_option maxRecDepth 100000 in
theorem zw_abs_s : Cond.static Lib.Math.abs.name ∈ lw_tbl := List.mem_of_getElem? (i := 1015) rfl
set_option maxRecDepth 100000 in
theorem zw_abs_c : Cond.code Lib.Math.abs.name Lib.Math.abs.code 1 (some .int) ∈ lw_tbl := List.mem_of_getElem? (i := 1016) rfl
set_option maxRecDepth 100000 in
theorem zw_sini : Cond.initialized "java/lang/System" ∈ lw_tbl := List.mem_of_getElem? (i := 119) rfl
set_option maxRecDepth 100000 in
theorem zw_acs : Cond.static arraycopyName ∈ lw_tbl := List.mem_of_getElem? (i := 1044) rfl
set_option maxRecDepth 100000 in
theorem zw_acn : Cond.native arraycopyName ∈ lw_tbl := List.mem_of_getElem? (i := 1045) rfl
set_option maxRecDepth 100000 in
theorem zw_oin : Cond.instanceMethod Lib.objectInit ∈ lw_tbl := List.mem_of_getElem? (i := 126) rfl
set_option maxRecDepth 100000 in
theorem zw_oco : Cond.code Lib.objectInit ⟨#[0xb1]⟩ 1 none ∈ lw_tbl := List.mem_of_getElem? (i := 127) rfl
set_option maxRecDepth 100000 in
theorem zw_aI : Cond.arrayClass .int ∈ lw_tbl := List.mem_of_getElem? (i := 164) rfl
set_option maxRecDepth 100000 in
theorem zw_aS : Cond.arrayClass .short ∈ lw_tbl := List.mem_of_getElem? (i := 541) rfl
set_option maxRecDepth 100000 in
theorem zw_ao0 : Cond.arrayOver (.object (zRn 7)) ∈ lw_tbl := List.mem_of_getElem? (i := 135) rfl
set_option maxRecDepth 100000 in
theorem zw_ao1 : Cond.arrayOver (.object (zRn 3)) ∈ lw_tbl := List.mem_of_getElem? (i := 137) rfl
set_option maxRecDepth 100000 in
theorem zw_ao2 : Cond.arrayOver (.object (zRn 8)) ∈ lw_tbl := List.mem_of_getElem? (i := 139) rfl
set_option maxRecDepth 100000 in
theorem zw_ao3 : Cond.arrayOver (.object (zRn 1)) ∈ lw_tbl := List.mem_of_getElem? (i := 141) rfl
set_option maxRecDepth 100000 in
theorem zw_ao4 : Cond.arrayOver (.object (zRn 9)) ∈ lw_tbl := List.mem_of_getElem? (i := 143) rfl
set_option maxRecDepth 100000 in
theorem zw_ao5 : Cond.arrayOver (.object (zRn 4)) ∈ lw_tbl := List.mem_of_getElem? (i := 145) rfl
set_option maxRecDepth 100000 in
theorem zw_aoS : Cond.arrayOver (.array .short) ∈ lw_tbl := List.mem_of_getElem? (i := 503) rfl
