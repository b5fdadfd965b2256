/-! SMALL METHODS, printed by wip/gen/base.py -/
theorem zw_iff (x lo hi : Int32) : (¬ x < lo ∧ ¬ hi < x) = (lo ≤ x ∧ x ≤ hi) := by
  rw [Int32.not_lt, Int32.not_lt]
theorem zb0 : zbool 0 = true := rfl
theorem zb1 : zbool 1 = true := rfl
theorem zs1 {α β : Type} (a : α) (f : α → Option β) : (some a).bind f = f a := rfl
theorem zs2 (v : Value) (r : List Value) : (some v).toList ++ r = v :: r := rfl
theorem zs3 (r : List Value) : (none : Option Value).toList ++ r = r := rfl
theorem zcs_n (C : zCt) {g x : Nat} (F : Nat → Nat → Int32) (h : x ≠ g) : zcs C g F x = C x := if_neg h
theorem zup_n (f : Nat → Nat → Int32) {a k x j : Nat} (v : Int32) (h : ¬ (x = a ∧ j = k)) : zup f a k v x j = f x j := if_neg h
theorem zlA (a : Nat) : (0 : Int32) + nI a = nI (0 + a) ∧
    (1 : Int32) + nI a = nI (1 + a) ∧
    (2 : Int32) + nI a = nI (2 + a) ∧
    (3 : Int32) + nI a = nI (3 + a) ∧
    (4 : Int32) + nI a = nI (4 + a) ∧
    (5 : Int32) + nI a = nI (5 + a) ∧
    (6 : Int32) + nI a = nI (6 + a) ∧
    (7 : Int32) + nI a = nI (7 + a) ∧
    (8 : Int32) + nI a = nI (8 + a) ∧
    (9 : Int32) + nI a = nI (9 + a) ∧
    (10 : Int32) + nI a = nI (10 + a) ∧
    (11 : Int32) + nI a = nI (11 + a) ∧
    (12 : Int32) + nI a = nI (12 + a) ∧
    (13 : Int32) + nI a = nI (13 + a) ∧
    (14 : Int32) + nI a = nI (14 + a) ∧
    (15 : Int32) + nI a = nI (15 + a) ∧
    (16 : Int32) + nI a = nI (16 + a) ∧
    (17 : Int32) + nI a = nI (17 + a) ∧
    (18 : Int32) + nI a = nI (18 + a) ∧
    (19 : Int32) + nI a = nI (19 + a) ∧
    (20 : Int32) + nI a = nI (20 + a) ∧
    (21 : Int32) + nI a = nI (21 + a) ∧
    (22 : Int32) + nI a = nI (22 + a) ∧
    (23 : Int32) + nI a = nI (23 + a) ∧
    (24 : Int32) + nI a = nI (24 + a) ∧
    (25 : Int32) + nI a = nI (25 + a) ∧
    (26 : Int32) + nI a = nI (26 + a) ∧
    (27 : Int32) + nI a = nI (27 + a) ∧
    (28 : Int32) + nI a = nI (28 + a) ∧
    (29 : Int32) + nI a = nI (29 + a) ∧
    (30 : Int32) + nI a = nI (30 + a) ∧
    (31 : Int32) + nI a = nI (31 + a) ∧
    (32 : Int32) + nI a = nI (32 + a) ∧
    (33 : Int32) + nI a = nI (33 + a) ∧
    (34 : Int32) + nI a = nI (34 + a) ∧
    (35 : Int32) + nI a = nI (35 + a) ∧
    (36 : Int32) + nI a = nI (36 + a) ∧
    (37 : Int32) + nI a = nI (37 + a) ∧
    (38 : Int32) + nI a = nI (38 + a) ∧
    (39 : Int32) + nI a = nI (39 + a) ∧
    (40 : Int32) + nI a = nI (40 + a) ∧
    (41 : Int32) + nI a = nI (41 + a) ∧
    (42 : Int32) + nI a = nI (42 + a) ∧
    (43 : Int32) + nI a = nI (43 + a) ∧
    (44 : Int32) + nI a = nI (44 + a) ∧
    (45 : Int32) + nI a = nI (45 + a) ∧
    (46 : Int32) + nI a = nI (46 + a) ∧
    (47 : Int32) + nI a = nI (47 + a) ∧
    (48 : Int32) + nI a = nI (48 + a) ∧
    (49 : Int32) + nI a = nI (49 + a) ∧
    (50 : Int32) + nI a = nI (50 + a) ∧
    (51 : Int32) + nI a = nI (51 + a) ∧
    (52 : Int32) + nI a = nI (52 + a) ∧
    (53 : Int32) + nI a = nI (53 + a) ∧
    (54 : Int32) + nI a = nI (54 + a) ∧
    (55 : Int32) + nI a = nI (55 + a) ∧
    (56 : Int32) + nI a = nI (56 + a) ∧
    (57 : Int32) + nI a = nI (57 + a) ∧
    (58 : Int32) + nI a = nI (58 + a) ∧
    (59 : Int32) + nI a = nI (59 + a) ∧
    (60 : Int32) + nI a = nI (60 + a) ∧
    (96 : Int32) + nI a = nI (96 + a) ∧
    (97 : Int32) + nI a = nI (97 + a) ∧
    (99 : Int32) + nI a = nI (99 + a) ∧
    (100 : Int32) + nI a = nI (100 + a) ∧
    (118 : Int32) + nI a = nI (118 + a) ∧
    (119 : Int32) + nI a = nI (119 + a) ∧
    (120 : Int32) + nI a = nI (120 + a) ∧
    (160 : Int32) + nI a = nI (160 + a) ∧
    (272 : Int32) + nI a = nI (272 + a) ∧
    (362 : Int32) + nI a = nI (362 + a) ∧
    (522 : Int32) + nI a = nI (522 + a) ∧
    (782 : Int32) + nI a = nI (782 + a) ∧
    (842 : Int32) + nI a = nI (842 + a) ∧
    (902 : Int32) + nI a = nI (902 + a) ∧
    (966 : Int32) + nI a = nI (966 + a) ∧
    (1062 : Int32) + nI a = nI (1062 + a) ∧
    (1086 : Int32) + nI a = nI (1086 + a) := by
  refine ⟨nI_add 0 a, nI_add 1 a, nI_add 2 a, nI_add 3 a, nI_add 4 a, nI_add 5 a, nI_add 6 a, nI_add 7 a, nI_add 8 a, nI_add 9 a, nI_add 10 a, nI_add 11 a, nI_add 12 a, nI_add 13 a, nI_add 14 a, nI_add 15 a, nI_add 16 a, nI_add 17 a, nI_add 18 a, nI_add 19 a, nI_add 20 a, nI_add 21 a, nI_add 22 a, nI_add 23 a, nI_add 24 a, nI_add 25 a, nI_add 26 a, nI_add 27 a, nI_add 28 a, nI_add 29 a, nI_add 30 a, nI_add 31 a, nI_add 32 a, nI_add 33 a, nI_add 34 a, nI_add 35 a, nI_add 36 a, nI_add 37 a, nI_add 38 a, nI_add 39 a, nI_add 40 a, nI_add 41 a, nI_add 42 a, nI_add 43 a, nI_add 44 a, nI_add 45 a, nI_add 46 a, nI_add 47 a, nI_add 48 a, nI_add 49 a, nI_add 50 a, nI_add 51 a, nI_add 52 a, nI_add 53 a, nI_add 54 a, nI_add 55 a, nI_add 56 a, nI_add 57 a, nI_add 58 a, nI_add 59 a, nI_add 60 a, nI_add 96 a, nI_add 97 a, nI_add 99 a, nI_add 100 a, nI_add 118 a, nI_add 119 a, nI_add 120 a, nI_add 160 a, nI_add 272 a, nI_add 362 a, nI_add 522 a, nI_add 782 a, nI_add 842 a, nI_add 902 a, nI_add 966 a, nI_add 1062 a, nI_add 1086 a⟩
theorem zlB (a : Nat) : nI a + (0 : Int32) = nI (a + 0) ∧
    nI a + (1 : Int32) = nI (a + 1) ∧
    nI a + (2 : Int32) = nI (a + 2) ∧
    nI a + (3 : Int32) = nI (a + 3) ∧
    nI a + (4 : Int32) = nI (a + 4) ∧
    nI a + (5 : Int32) = nI (a + 5) ∧
    nI a + (6 : Int32) = nI (a + 6) ∧
    nI a + (7 : Int32) = nI (a + 7) ∧
    nI a + (8 : Int32) = nI (a + 8) ∧
    nI a + (9 : Int32) = nI (a + 9) ∧
    nI a + (10 : Int32) = nI (a + 10) ∧
    nI a + (11 : Int32) = nI (a + 11) ∧
    nI a + (12 : Int32) = nI (a + 12) ∧
    nI a + (13 : Int32) = nI (a + 13) ∧
    nI a + (14 : Int32) = nI (a + 14) ∧
    nI a + (15 : Int32) = nI (a + 15) ∧
    nI a + (16 : Int32) = nI (a + 16) ∧
    nI a + (17 : Int32) = nI (a + 17) ∧
    nI a + (18 : Int32) = nI (a + 18) ∧
    nI a + (19 : Int32) = nI (a + 19) ∧
    nI a + (20 : Int32) = nI (a + 20) ∧
    nI a + (21 : Int32) = nI (a + 21) ∧
    nI a + (22 : Int32) = nI (a + 22) ∧
    nI a + (23 : Int32) = nI (a + 23) ∧
    nI a + (24 : Int32) = nI (a + 24) ∧
    nI a + (25 : Int32) = nI (a + 25) ∧
    nI a + (26 : Int32) = nI (a + 26) ∧
    nI a + (27 : Int32) = nI (a + 27) ∧
    nI a + (28 : Int32) = nI (a + 28) ∧
    nI a + (29 : Int32) = nI (a + 29) ∧
    nI a + (30 : Int32) = nI (a + 30) ∧
    nI a + (31 : Int32) = nI (a + 31) ∧
    nI a + (32 : Int32) = nI (a + 32) ∧
    nI a + (33 : Int32) = nI (a + 33) ∧
    nI a + (34 : Int32) = nI (a + 34) ∧
    nI a + (35 : Int32) = nI (a + 35) ∧
    nI a + (36 : Int32) = nI (a + 36) ∧
    nI a + (37 : Int32) = nI (a + 37) ∧
    nI a + (38 : Int32) = nI (a + 38) ∧
    nI a + (39 : Int32) = nI (a + 39) ∧
    nI a + (40 : Int32) = nI (a + 40) ∧
    nI a + (41 : Int32) = nI (a + 41) ∧
    nI a + (42 : Int32) = nI (a + 42) ∧
    nI a + (43 : Int32) = nI (a + 43) ∧
    nI a + (44 : Int32) = nI (a + 44) ∧
    nI a + (45 : Int32) = nI (a + 45) ∧
    nI a + (46 : Int32) = nI (a + 46) ∧
    nI a + (47 : Int32) = nI (a + 47) ∧
    nI a + (48 : Int32) = nI (a + 48) ∧
    nI a + (49 : Int32) = nI (a + 49) ∧
    nI a + (50 : Int32) = nI (a + 50) ∧
    nI a + (51 : Int32) = nI (a + 51) ∧
    nI a + (52 : Int32) = nI (a + 52) ∧
    nI a + (53 : Int32) = nI (a + 53) ∧
    nI a + (54 : Int32) = nI (a + 54) ∧
    nI a + (55 : Int32) = nI (a + 55) ∧
    nI a + (56 : Int32) = nI (a + 56) ∧
    nI a + (57 : Int32) = nI (a + 57) ∧
    nI a + (58 : Int32) = nI (a + 58) ∧
    nI a + (59 : Int32) = nI (a + 59) ∧
    nI a + (60 : Int32) = nI (a + 60) ∧
    nI a + (96 : Int32) = nI (a + 96) ∧
    nI a + (97 : Int32) = nI (a + 97) ∧
    nI a + (99 : Int32) = nI (a + 99) ∧
    nI a + (100 : Int32) = nI (a + 100) ∧
    nI a + (118 : Int32) = nI (a + 118) ∧
    nI a + (119 : Int32) = nI (a + 119) ∧
    nI a + (120 : Int32) = nI (a + 120) ∧
    nI a + (160 : Int32) = nI (a + 160) ∧
    nI a + (272 : Int32) = nI (a + 272) ∧
    nI a + (362 : Int32) = nI (a + 362) ∧
    nI a + (522 : Int32) = nI (a + 522) ∧
    nI a + (782 : Int32) = nI (a + 782) ∧
    nI a + (842 : Int32) = nI (a + 842) ∧
    nI a + (902 : Int32) = nI (a + 902) ∧
    nI a + (966 : Int32) = nI (a + 966) ∧
    nI a + (1062 : Int32) = nI (a + 1062) ∧
    nI a + (1086 : Int32) = nI (a + 1086) := by
  refine ⟨nI_add a 0, nI_add a 1, nI_add a 2, nI_add a 3, nI_add a 4, nI_add a 5, nI_add a 6, nI_add a 7, nI_add a 8, nI_add a 9, nI_add a 10, nI_add a 11, nI_add a 12, nI_add a 13, nI_add a 14, nI_add a 15, nI_add a 16, nI_add a 17, nI_add a 18, nI_add a 19, nI_add a 20, nI_add a 21, nI_add a 22, nI_add a 23, nI_add a 24, nI_add a 25, nI_add a 26, nI_add a 27, nI_add a 28, nI_add a 29, nI_add a 30, nI_add a 31, nI_add a 32, nI_add a 33, nI_add a 34, nI_add a 35, nI_add a 36, nI_add a 37, nI_add a 38, nI_add a 39, nI_add a 40, nI_add a 41, nI_add a 42, nI_add a 43, nI_add a 44, nI_add a 45, nI_add a 46, nI_add a 47, nI_add a 48, nI_add a 49, nI_add a 50, nI_add a 51, nI_add a 52, nI_add a 53, nI_add a 54, nI_add a 55, nI_add a 56, nI_add a 57, nI_add a 58, nI_add a 59, nI_add a 60, nI_add a 96, nI_add a 97, nI_add a 99, nI_add a 100, nI_add a 118, nI_add a 119, nI_add a 120, nI_add a 160, nI_add a 272, nI_add a 362, nI_add a 522, nI_add a 782, nI_add a 842, nI_add a 902, nI_add a 966, nI_add a 1062, nI_add a 1086⟩
theorem zlM (a : Nat) : (0 : Int32) * nI a = nI (0 * a) ∧
    (1 : Int32) * nI a = nI (1 * a) ∧
    (2 : Int32) * nI a = nI (2 * a) ∧
    (3 : Int32) * nI a = nI (3 * a) ∧
    (4 : Int32) * nI a = nI (4 * a) ∧
    (5 : Int32) * nI a = nI (5 * a) ∧
    (6 : Int32) * nI a = nI (6 * a) ∧
    (7 : Int32) * nI a = nI (7 * a) ∧
    (8 : Int32) * nI a = nI (8 * a) ∧
    (9 : Int32) * nI a = nI (9 * a) ∧
    (10 : Int32) * nI a = nI (10 * a) ∧
    (11 : Int32) * nI a = nI (11 * a) ∧
    (12 : Int32) * nI a = nI (12 * a) ∧
    (13 : Int32) * nI a = nI (13 * a) ∧
    (14 : Int32) * nI a = nI (14 * a) ∧
    (15 : Int32) * nI a = nI (15 * a) ∧
    (16 : Int32) * nI a = nI (16 * a) ∧
    (17 : Int32) * nI a = nI (17 * a) ∧
    (18 : Int32) * nI a = nI (18 * a) ∧
    (19 : Int32) * nI a = nI (19 * a) ∧
    (20 : Int32) * nI a = nI (20 * a) ∧
    (21 : Int32) * nI a = nI (21 * a) ∧
    (22 : Int32) * nI a = nI (22 * a) ∧
    (23 : Int32) * nI a = nI (23 * a) ∧
    (24 : Int32) * nI a = nI (24 * a) ∧
    (25 : Int32) * nI a = nI (25 * a) ∧
    (26 : Int32) * nI a = nI (26 * a) ∧
    (27 : Int32) * nI a = nI (27 * a) ∧
    (28 : Int32) * nI a = nI (28 * a) ∧
    (29 : Int32) * nI a = nI (29 * a) ∧
    (30 : Int32) * nI a = nI (30 * a) ∧
    (31 : Int32) * nI a = nI (31 * a) ∧
    (32 : Int32) * nI a = nI (32 * a) ∧
    (33 : Int32) * nI a = nI (33 * a) ∧
    (34 : Int32) * nI a = nI (34 * a) ∧
    (35 : Int32) * nI a = nI (35 * a) ∧
    (36 : Int32) * nI a = nI (36 * a) ∧
    (37 : Int32) * nI a = nI (37 * a) ∧
    (38 : Int32) * nI a = nI (38 * a) ∧
    (39 : Int32) * nI a = nI (39 * a) ∧
    (40 : Int32) * nI a = nI (40 * a) ∧
    (41 : Int32) * nI a = nI (41 * a) ∧
    (42 : Int32) * nI a = nI (42 * a) ∧
    (43 : Int32) * nI a = nI (43 * a) ∧
    (44 : Int32) * nI a = nI (44 * a) ∧
    (45 : Int32) * nI a = nI (45 * a) ∧
    (46 : Int32) * nI a = nI (46 * a) ∧
    (47 : Int32) * nI a = nI (47 * a) ∧
    (48 : Int32) * nI a = nI (48 * a) ∧
    (49 : Int32) * nI a = nI (49 * a) ∧
    (50 : Int32) * nI a = nI (50 * a) ∧
    (51 : Int32) * nI a = nI (51 * a) ∧
    (52 : Int32) * nI a = nI (52 * a) ∧
    (53 : Int32) * nI a = nI (53 * a) ∧
    (54 : Int32) * nI a = nI (54 * a) ∧
    (55 : Int32) * nI a = nI (55 * a) ∧
    (56 : Int32) * nI a = nI (56 * a) ∧
    (57 : Int32) * nI a = nI (57 * a) ∧
    (58 : Int32) * nI a = nI (58 * a) ∧
    (59 : Int32) * nI a = nI (59 * a) ∧
    (60 : Int32) * nI a = nI (60 * a) ∧
    (96 : Int32) * nI a = nI (96 * a) ∧
    (97 : Int32) * nI a = nI (97 * a) ∧
    (99 : Int32) * nI a = nI (99 * a) ∧
    (100 : Int32) * nI a = nI (100 * a) ∧
    (118 : Int32) * nI a = nI (118 * a) ∧
    (119 : Int32) * nI a = nI (119 * a) ∧
    (120 : Int32) * nI a = nI (120 * a) ∧
    (160 : Int32) * nI a = nI (160 * a) ∧
    (272 : Int32) * nI a = nI (272 * a) ∧
    (362 : Int32) * nI a = nI (362 * a) ∧
    (522 : Int32) * nI a = nI (522 * a) ∧
    (782 : Int32) * nI a = nI (782 * a) ∧
    (842 : Int32) * nI a = nI (842 * a) ∧
    (902 : Int32) * nI a = nI (902 * a) ∧
    (966 : Int32) * nI a = nI (966 * a) ∧
    (1062 : Int32) * nI a = nI (1062 * a) ∧
    (1086 : Int32) * nI a = nI (1086 * a) := by
  refine ⟨zL_mul 0 a, zL_mul 1 a, zL_mul 2 a, zL_mul 3 a, zL_mul 4 a, zL_mul 5 a, zL_mul 6 a, zL_mul 7 a, zL_mul 8 a, zL_mul 9 a, zL_mul 10 a, zL_mul 11 a, zL_mul 12 a, zL_mul 13 a, zL_mul 14 a, zL_mul 15 a, zL_mul 16 a, zL_mul 17 a, zL_mul 18 a, zL_mul 19 a, zL_mul 20 a, zL_mul 21 a, zL_mul 22 a, zL_mul 23 a, zL_mul 24 a, zL_mul 25 a, zL_mul 26 a, zL_mul 27 a, zL_mul 28 a, zL_mul 29 a, zL_mul 30 a, zL_mul 31 a, zL_mul 32 a, zL_mul 33 a, zL_mul 34 a, zL_mul 35 a, zL_mul 36 a, zL_mul 37 a, zL_mul 38 a, zL_mul 39 a, zL_mul 40 a, zL_mul 41 a, zL_mul 42 a, zL_mul 43 a, zL_mul 44 a, zL_mul 45 a, zL_mul 46 a, zL_mul 47 a, zL_mul 48 a, zL_mul 49 a, zL_mul 50 a, zL_mul 51 a, zL_mul 52 a, zL_mul 53 a, zL_mul 54 a, zL_mul 55 a, zL_mul 56 a, zL_mul 57 a, zL_mul 58 a, zL_mul 59 a, zL_mul 60 a, zL_mul 96 a, zL_mul 97 a, zL_mul 99 a, zL_mul 100 a, zL_mul 118 a, zL_mul 119 a, zL_mul 120 a, zL_mul 160 a, zL_mul 272 a, zL_mul 362 a, zL_mul 522 a, zL_mul 782 a, zL_mul 842 a, zL_mul 902 a, zL_mul 966 a, zL_mul 1062 a, zL_mul 1086 a⟩
theorem zlN (a : Nat) : nI a * (0 : Int32) = nI (a * 0) ∧
    nI a * (1 : Int32) = nI (a * 1) ∧
    nI a * (2 : Int32) = nI (a * 2) ∧
    nI a * (3 : Int32) = nI (a * 3) ∧
    nI a * (4 : Int32) = nI (a * 4) ∧
    nI a * (5 : Int32) = nI (a * 5) ∧
    nI a * (6 : Int32) = nI (a * 6) ∧
    nI a * (7 : Int32) = nI (a * 7) ∧
    nI a * (8 : Int32) = nI (a * 8) ∧
    nI a * (9 : Int32) = nI (a * 9) ∧
    nI a * (10 : Int32) = nI (a * 10) ∧
    nI a * (11 : Int32) = nI (a * 11) ∧
    nI a * (12 : Int32) = nI (a * 12) ∧
    nI a * (13 : Int32) = nI (a * 13) ∧
    nI a * (14 : Int32) = nI (a * 14) ∧
    nI a * (15 : Int32) = nI (a * 15) ∧
    nI a * (16 : Int32) = nI (a * 16) ∧
    nI a * (17 : Int32) = nI (a * 17) ∧
    nI a * (18 : Int32) = nI (a * 18) ∧
    nI a * (19 : Int32) = nI (a * 19) ∧
    nI a * (20 : Int32) = nI (a * 20) ∧
    nI a * (21 : Int32) = nI (a * 21) ∧
    nI a * (22 : Int32) = nI (a * 22) ∧
    nI a * (23 : Int32) = nI (a * 23) ∧
    nI a * (24 : Int32) = nI (a * 24) ∧
    nI a * (25 : Int32) = nI (a * 25) ∧
    nI a * (26 : Int32) = nI (a * 26) ∧
    nI a * (27 : Int32) = nI (a * 27) ∧
    nI a * (28 : Int32) = nI (a * 28) ∧
    nI a * (29 : Int32) = nI (a * 29) ∧
    nI a * (30 : Int32) = nI (a * 30) ∧
    nI a * (31 : Int32) = nI (a * 31) ∧
    nI a * (32 : Int32) = nI (a * 32) ∧
    nI a * (33 : Int32) = nI (a * 33) ∧
    nI a * (34 : Int32) = nI (a * 34) ∧
    nI a * (35 : Int32) = nI (a * 35) ∧
    nI a * (36 : Int32) = nI (a * 36) ∧
    nI a * (37 : Int32) = nI (a * 37) ∧
    nI a * (38 : Int32) = nI (a * 38) ∧
    nI a * (39 : Int32) = nI (a * 39) ∧
    nI a * (40 : Int32) = nI (a * 40) ∧
    nI a * (41 : Int32) = nI (a * 41) ∧
    nI a * (42 : Int32) = nI (a * 42) ∧
    nI a * (43 : Int32) = nI (a * 43) ∧
    nI a * (44 : Int32) = nI (a * 44) ∧
    nI a * (45 : Int32) = nI (a * 45) ∧
    nI a * (46 : Int32) = nI (a * 46) ∧
    nI a * (47 : Int32) = nI (a * 47) ∧
    nI a * (48 : Int32) = nI (a * 48) ∧
    nI a * (49 : Int32) = nI (a * 49) ∧
    nI a * (50 : Int32) = nI (a * 50) ∧
    nI a * (51 : Int32) = nI (a * 51) ∧
    nI a * (52 : Int32) = nI (a * 52) ∧
    nI a * (53 : Int32) = nI (a * 53) ∧
    nI a * (54 : Int32) = nI (a * 54) ∧
    nI a * (55 : Int32) = nI (a * 55) ∧
    nI a * (56 : Int32) = nI (a * 56) ∧
    nI a * (57 : Int32) = nI (a * 57) ∧
    nI a * (58 : Int32) = nI (a * 58) ∧
    nI a * (59 : Int32) = nI (a * 59) ∧
    nI a * (60 : Int32) = nI (a * 60) ∧
    nI a * (96 : Int32) = nI (a * 96) ∧
    nI a * (97 : Int32) = nI (a * 97) ∧
    nI a * (99 : Int32) = nI (a * 99) ∧
    nI a * (100 : Int32) = nI (a * 100) ∧
    nI a * (118 : Int32) = nI (a * 118) ∧
    nI a * (119 : Int32) = nI (a * 119) ∧
    nI a * (120 : Int32) = nI (a * 120) ∧
    nI a * (160 : Int32) = nI (a * 160) ∧
    nI a * (272 : Int32) = nI (a * 272) ∧
    nI a * (362 : Int32) = nI (a * 362) ∧
    nI a * (522 : Int32) = nI (a * 522) ∧
    nI a * (782 : Int32) = nI (a * 782) ∧
    nI a * (842 : Int32) = nI (a * 842) ∧
    nI a * (902 : Int32) = nI (a * 902) ∧
    nI a * (966 : Int32) = nI (a * 966) ∧
    nI a * (1062 : Int32) = nI (a * 1062) ∧
    nI a * (1086 : Int32) = nI (a * 1086) := by
  refine ⟨zL_mul2 0 a, zL_mul2 1 a, zL_mul2 2 a, zL_mul2 3 a, zL_mul2 4 a, zL_mul2 5 a, zL_mul2 6 a, zL_mul2 7 a, zL_mul2 8 a, zL_mul2 9 a, zL_mul2 10 a, zL_mul2 11 a, zL_mul2 12 a, zL_mul2 13 a, zL_mul2 14 a, zL_mul2 15 a, zL_mul2 16 a, zL_mul2 17 a, zL_mul2 18 a, zL_mul2 19 a, zL_mul2 20 a, zL_mul2 21 a, zL_mul2 22 a, zL_mul2 23 a, zL_mul2 24 a, zL_mul2 25 a, zL_mul2 26 a, zL_mul2 27 a, zL_mul2 28 a, zL_mul2 29 a, zL_mul2 30 a, zL_mul2 31 a, zL_mul2 32 a, zL_mul2 33 a, zL_mul2 34 a, zL_mul2 35 a, zL_mul2 36 a, zL_mul2 37 a, zL_mul2 38 a, zL_mul2 39 a, zL_mul2 40 a, zL_mul2 41 a, zL_mul2 42 a, zL_mul2 43 a, zL_mul2 44 a, zL_mul2 45 a, zL_mul2 46 a, zL_mul2 47 a, zL_mul2 48 a, zL_mul2 49 a, zL_mul2 50 a, zL_mul2 51 a, zL_mul2 52 a, zL_mul2 53 a, zL_mul2 54 a, zL_mul2 55 a, zL_mul2 56 a, zL_mul2 57 a, zL_mul2 58 a, zL_mul2 59 a, zL_mul2 60 a, zL_mul2 96 a, zL_mul2 97 a, zL_mul2 99 a, zL_mul2 100 a, zL_mul2 118 a, zL_mul2 119 a, zL_mul2 120 a, zL_mul2 160 a, zL_mul2 272 a, zL_mul2 362 a, zL_mul2 522 a, zL_mul2 782 a, zL_mul2 842 a, zL_mul2 902 a, zL_mul2 966 a, zL_mul2 1062 a, zL_mul2 1086 a⟩
theorem zlX  : zix (0 : Int32) = 0 ∧
    zix (1 : Int32) = 1 ∧
    zix (2 : Int32) = 2 ∧
    zix (3 : Int32) = 3 ∧
    zix (4 : Int32) = 4 ∧
    zix (5 : Int32) = 5 ∧
    zix (6 : Int32) = 6 ∧
    zix (7 : Int32) = 7 ∧
    zix (8 : Int32) = 8 ∧
    zix (9 : Int32) = 9 ∧
    zix (10 : Int32) = 10 ∧
    zix (11 : Int32) = 11 ∧
    zix (12 : Int32) = 12 ∧
    zix (13 : Int32) = 13 ∧
    zix (14 : Int32) = 14 ∧
    zix (15 : Int32) = 15 ∧
    zix (16 : Int32) = 16 ∧
    zix (17 : Int32) = 17 ∧
    zix (18 : Int32) = 18 ∧
    zix (19 : Int32) = 19 ∧
    zix (20 : Int32) = 20 ∧
    zix (21 : Int32) = 21 ∧
    zix (22 : Int32) = 22 ∧
    zix (23 : Int32) = 23 ∧
    zix (24 : Int32) = 24 ∧
    zix (25 : Int32) = 25 ∧
    zix (26 : Int32) = 26 ∧
    zix (27 : Int32) = 27 ∧
    zix (28 : Int32) = 28 ∧
    zix (29 : Int32) = 29 ∧
    zix (30 : Int32) = 30 ∧
    zix (31 : Int32) = 31 ∧
    zix (32 : Int32) = 32 ∧
    zix (33 : Int32) = 33 ∧
    zix (34 : Int32) = 34 ∧
    zix (35 : Int32) = 35 ∧
    zix (36 : Int32) = 36 ∧
    zix (37 : Int32) = 37 ∧
    zix (38 : Int32) = 38 ∧
    zix (39 : Int32) = 39 ∧
    zix (40 : Int32) = 40 ∧
    zix (41 : Int32) = 41 ∧
    zix (42 : Int32) = 42 ∧
    zix (43 : Int32) = 43 ∧
    zix (44 : Int32) = 44 ∧
    zix (45 : Int32) = 45 ∧
    zix (46 : Int32) = 46 ∧
    zix (47 : Int32) = 47 ∧
    zix (48 : Int32) = 48 ∧
    zix (49 : Int32) = 49 ∧
    zix (50 : Int32) = 50 ∧
    zix (51 : Int32) = 51 ∧
    zix (52 : Int32) = 52 ∧
    zix (53 : Int32) = 53 ∧
    zix (54 : Int32) = 54 ∧
    zix (55 : Int32) = 55 ∧
    zix (56 : Int32) = 56 ∧
    zix (57 : Int32) = 57 ∧
    zix (58 : Int32) = 58 ∧
    zix (59 : Int32) = 59 ∧
    zix (60 : Int32) = 60 ∧
    zix (96 : Int32) = 96 ∧
    zix (97 : Int32) = 97 ∧
    zix (99 : Int32) = 99 ∧
    zix (100 : Int32) = 100 ∧
    zix (118 : Int32) = 118 ∧
    zix (119 : Int32) = 119 ∧
    zix (120 : Int32) = 120 ∧
    zix (160 : Int32) = 160 ∧
    zix (272 : Int32) = 272 ∧
    zix (362 : Int32) = 362 ∧
    zix (522 : Int32) = 522 ∧
    zix (782 : Int32) = 782 ∧
    zix (842 : Int32) = 842 ∧
    zix (902 : Int32) = 902 ∧
    zix (966 : Int32) = 966 ∧
    zix (1062 : Int32) = 1062 ∧
    zix (1086 : Int32) = 1086 := by
  refine ⟨rfl, rfl, rfl, rfl, rfl, rfl, rfl, rfl, rfl, rfl, rfl, rfl, rfl, rfl, rfl, rfl, rfl, rfl, rfl, rfl, rfl, rfl, rfl, rfl, rfl, rfl, rfl, rfl, rfl, rfl, rfl, rfl, rfl, rfl, rfl, rfl, rfl, rfl, rfl, rfl, rfl, rfl, rfl, rfl, rfl, rfl, rfl, rfl, rfl, rfl, rfl, rfl, rfl, rfl, rfl, rfl, rfl, rfl, rfl, rfl, rfl, rfl, rfl, rfl, rfl, rfl, rfl, rfl, rfl, rfl, rfl, rfl, rfl, rfl, rfl, rfl, rfl, rfl⟩
theorem zlI (m : Nat) : (0 < m → zinb (0 : Int32) m = true) ∧
    (1 < m → zinb (1 : Int32) m = true) ∧
    (2 < m → zinb (2 : Int32) m = true) ∧
    (3 < m → zinb (3 : Int32) m = true) ∧
    (4 < m → zinb (4 : Int32) m = true) ∧
    (5 < m → zinb (5 : Int32) m = true) ∧
    (6 < m → zinb (6 : Int32) m = true) ∧
    (7 < m → zinb (7 : Int32) m = true) ∧
    (8 < m → zinb (8 : Int32) m = true) ∧
    (9 < m → zinb (9 : Int32) m = true) ∧
    (10 < m → zinb (10 : Int32) m = true) ∧
    (11 < m → zinb (11 : Int32) m = true) ∧
    (12 < m → zinb (12 : Int32) m = true) ∧
    (13 < m → zinb (13 : Int32) m = true) ∧
    (14 < m → zinb (14 : Int32) m = true) ∧
    (15 < m → zinb (15 : Int32) m = true) ∧
    (16 < m → zinb (16 : Int32) m = true) ∧
    (17 < m → zinb (17 : Int32) m = true) ∧
    (18 < m → zinb (18 : Int32) m = true) ∧
    (19 < m → zinb (19 : Int32) m = true) ∧
    (20 < m → zinb (20 : Int32) m = true) ∧
    (21 < m → zinb (21 : Int32) m = true) ∧
    (22 < m → zinb (22 : Int32) m = true) ∧
    (23 < m → zinb (23 : Int32) m = true) ∧
    (24 < m → zinb (24 : Int32) m = true) ∧
    (25 < m → zinb (25 : Int32) m = true) ∧
    (26 < m → zinb (26 : Int32) m = true) ∧
    (27 < m → zinb (27 : Int32) m = true) ∧
    (28 < m → zinb (28 : Int32) m = true) ∧
    (29 < m → zinb (29 : Int32) m = true) ∧
    (30 < m → zinb (30 : Int32) m = true) ∧
    (31 < m → zinb (31 : Int32) m = true) ∧
    (32 < m → zinb (32 : Int32) m = true) ∧
    (33 < m → zinb (33 : Int32) m = true) ∧
    (34 < m → zinb (34 : Int32) m = true) ∧
    (35 < m → zinb (35 : Int32) m = true) ∧
    (36 < m → zinb (36 : Int32) m = true) ∧
    (37 < m → zinb (37 : Int32) m = true) ∧
    (38 < m → zinb (38 : Int32) m = true) ∧
    (39 < m → zinb (39 : Int32) m = true) ∧
    (40 < m → zinb (40 : Int32) m = true) ∧
    (41 < m → zinb (41 : Int32) m = true) ∧
    (42 < m → zinb (42 : Int32) m = true) ∧
    (43 < m → zinb (43 : Int32) m = true) ∧
    (44 < m → zinb (44 : Int32) m = true) ∧
    (45 < m → zinb (45 : Int32) m = true) ∧
    (46 < m → zinb (46 : Int32) m = true) ∧
    (47 < m → zinb (47 : Int32) m = true) ∧
    (48 < m → zinb (48 : Int32) m = true) ∧
    (49 < m → zinb (49 : Int32) m = true) ∧
    (50 < m → zinb (50 : Int32) m = true) ∧
    (51 < m → zinb (51 : Int32) m = true) ∧
    (52 < m → zinb (52 : Int32) m = true) ∧
    (53 < m → zinb (53 : Int32) m = true) ∧
    (54 < m → zinb (54 : Int32) m = true) ∧
    (55 < m → zinb (55 : Int32) m = true) ∧
    (56 < m → zinb (56 : Int32) m = true) ∧
    (57 < m → zinb (57 : Int32) m = true) ∧
    (58 < m → zinb (58 : Int32) m = true) ∧
    (59 < m → zinb (59 : Int32) m = true) ∧
    (60 < m → zinb (60 : Int32) m = true) ∧
    (96 < m → zinb (96 : Int32) m = true) ∧
    (97 < m → zinb (97 : Int32) m = true) ∧
    (99 < m → zinb (99 : Int32) m = true) ∧
    (100 < m → zinb (100 : Int32) m = true) ∧
    (118 < m → zinb (118 : Int32) m = true) ∧
    (119 < m → zinb (119 : Int32) m = true) ∧
    (120 < m → zinb (120 : Int32) m = true) ∧
    (160 < m → zinb (160 : Int32) m = true) ∧
    (272 < m → zinb (272 : Int32) m = true) ∧
    (362 < m → zinb (362 : Int32) m = true) ∧
    (522 < m → zinb (522 : Int32) m = true) ∧
    (782 < m → zinb (782 : Int32) m = true) ∧
    (842 < m → zinb (842 : Int32) m = true) ∧
    (902 < m → zinb (902 : Int32) m = true) ∧
    (966 < m → zinb (966 : Int32) m = true) ∧
    (1062 < m → zinb (1062 : Int32) m = true) ∧
    (1086 < m → zinb (1086 : Int32) m = true) := by
  refine ⟨fun h => zinb_l (n := 0) h (by decide), fun h => zinb_l (n := 1) h (by decide), fun h => zinb_l (n := 2) h (by decide), fun h => zinb_l (n := 3) h (by decide), fun h => zinb_l (n := 4) h (by decide), fun h => zinb_l (n := 5) h (by decide), fun h => zinb_l (n := 6) h (by decide), fun h => zinb_l (n := 7) h (by decide), fun h => zinb_l (n := 8) h (by decide), fun h => zinb_l (n := 9) h (by decide), fun h => zinb_l (n := 10) h (by decide), fun h => zinb_l (n := 11) h (by decide), fun h => zinb_l (n := 12) h (by decide), fun h => zinb_l (n := 13) h (by decide), fun h => zinb_l (n := 14) h (by decide), fun h => zinb_l (n := 15) h (by decide), fun h => zinb_l (n := 16) h (by decide), fun h => zinb_l (n := 17) h (by decide), fun h => zinb_l (n := 18) h (by decide), fun h => zinb_l (n := 19) h (by decide), fun h => zinb_l (n := 20) h (by decide), fun h => zinb_l (n := 21) h (by decide), fun h => zinb_l (n := 22) h (by decide), fun h => zinb_l (n := 23) h (by decide), fun h => zinb_l (n := 24) h (by decide), fun h => zinb_l (n := 25) h (by decide), fun h => zinb_l (n := 26) h (by decide), fun h => zinb_l (n := 27) h (by decide), fun h => zinb_l (n := 28) h (by decide), fun h => zinb_l (n := 29) h (by decide), fun h => zinb_l (n := 30) h (by decide), fun h => zinb_l (n := 31) h (by decide), fun h => zinb_l (n := 32) h (by decide), fun h => zinb_l (n := 33) h (by decide), fun h => zinb_l (n := 34) h (by decide), fun h => zinb_l (n := 35) h (by decide), fun h => zinb_l (n := 36) h (by decide), fun h => zinb_l (n := 37) h (by decide), fun h => zinb_l (n := 38) h (by decide), fun h => zinb_l (n := 39) h (by decide), fun h => zinb_l (n := 40) h (by decide), fun h => zinb_l (n := 41) h (by decide), fun h => zinb_l (n := 42) h (by decide), fun h => zinb_l (n := 43) h (by decide), fun h => zinb_l (n := 44) h (by decide), fun h => zinb_l (n := 45) h (by decide), fun h => zinb_l (n := 46) h (by decide), fun h => zinb_l (n := 47) h (by decide), fun h => zinb_l (n := 48) h (by decide), fun h => zinb_l (n := 49) h (by decide), fun h => zinb_l (n := 50) h (by decide), fun h => zinb_l (n := 51) h (by decide), fun h => zinb_l (n := 52) h (by decide), fun h => zinb_l (n := 53) h (by decide), fun h => zinb_l (n := 54) h (by decide), fun h => zinb_l (n := 55) h (by decide), fun h => zinb_l (n := 56) h (by decide), fun h => zinb_l (n := 57) h (by decide), fun h => zinb_l (n := 58) h (by decide), fun h => zinb_l (n := 59) h (by decide), fun h => zinb_l (n := 60) h (by decide), fun h => zinb_l (n := 96) h (by decide), fun h => zinb_l (n := 97) h (by decide), fun h => zinb_l (n := 99) h (by decide), fun h => zinb_l (n := 100) h (by decide), fun h => zinb_l (n := 118) h (by decide), fun h => zinb_l (n := 119) h (by decide), fun h => zinb_l (n := 120) h (by decide), fun h => zinb_l (n := 160) h (by decide), fun h => zinb_l (n := 272) h (by decide), fun h => zinb_l (n := 362) h (by decide), fun h => zinb_l (n := 522) h (by decide), fun h => zinb_l (n := 782) h (by decide), fun h => zinb_l (n := 842) h (by decide), fun h => zinb_l (n := 902) h (by decide), fun h => zinb_l (n := 966) h (by decide), fun h => zinb_l (n := 1062) h (by decide), fun h => zinb_l (n := 1086) h (by decide)⟩
theorem T107 (d : Nat) (Z : List (Nat × Nat)) (I : Nat → Nat → Int32) (P : Nat → Nat → Nat) (x0 x1 x2 : Int32) : zR d 107 0 [.int x0, .int x1, .int x2] [] (Z, I, P) = some (some (.int (if x1 ≤ x0 ∧ x0 ≤ x2 then 1 else 0)), (Z, I, P)) := by
  rw [e107_0, e107_5, e107_10, e107_14]
  simp only [e107_15, ← zw_iff]
  by_cases h1 : x0 < x1 <;> by_cases h2 : x2 < x0 <;> simp [h1, h2, zbool]
theorem T154 (d : Nat) (Z : List (Nat × Nat)) (I : Nat → Nat → Int32) (P : Nat → Nat → Nat) (x0 x1 x2 : Int32) : zR d 154 0 [.int x0, .int x1, .int x2] [] (Z, I, P) = some (some (.int (if x1 ≤ x0 ∧ x0 ≤ x2 then 1 else 0)), (Z, I, P)) := by
  rw [e154_0, e154_5, e154_10, e154_14]
  simp only [e154_15, ← zw_iff]
  by_cases h1 : x0 < x1 <;> by_cases h2 : x2 < x0 <;> simp [h1, h2, zbool]
theorem T106 (d : Nat) (Z : List (Nat × Nat)) (I : Nat → Nat → Int32) (P : Nat → Nat → Nat) (x0 x1 : Int32) : zR (d + 1) 106 0 [.int x0, .int x1] [] (Z, I, P) = some (some (.int (if (-9999999 ≤ x0 ∧ x0 ≤ 9999999) ∧ (-9999999 ≤ x1 ∧ x1 ≤ 9999999) then 1 else 0)), (Z, I, P)) := by
  simp only [e106_0, e106_10, e106_13, e106_23, e106_26, e106_30, e106_31, T107, zs1, zs2, zI_eqb]
  by_cases h1 : -9999999 ≤ x0 ∧ x0 ≤ 9999999 <;> by_cases h2 : -9999999 ≤ x1 ∧ x1 ≤ 9999999 <;> simp [h1, h2, zbool]
theorem T153 (d : Nat) (Z : List (Nat × Nat)) (I : Nat → Nat → Int32) (P : Nat → Nat → Nat) (x0 : Int32) : zR (d + 1) 153 0 [.int x0] [] (Z, I, P) = some (some (.int (if (-9999999 ≤ x0 ∧ x0 ≤ 9999999) then 1 else 0)), (Z, I, P)) := by
  simp only [e153_0, T154, zs1, zs2, e153_8, zbool_i, Bool.and_self, cond_true]
theorem T112 (d : Nat) (Z : List (Nat × Nat)) (I : Nat → Nat → Int32) (P : Nat → Nat → Nat) (x0 : Int32) : zR (d + 1) 112 0 [.int x0] [] (Z, I, P) = some (some (.int (if 0 ≤ x0 ∧ x0 ≤ 1 then 1 else 0)), (Z, I, P)) := by
  simp only [e112_0, e112_6, T107, zs1, zs2, zbool_i, Bool.and_self, cond_true]
theorem T115 (d : Nat) (Z : List (Nat × Nat)) (I : Nat → Nat → Int32) (P : Nat → Nat → Nat) (x0 x1 : Int32) : zR d 115 0 [.int x0, .int x1] [] (Z, I, P) = some (some (.int (if x1 = 0 ∨ x0 = x1 ∨ (x0 = 3 ∧ x1 = 2) then 1 else 0)), (Z, I, P)) := by
  simp only [e115_0, e115_4, e115_9, e115_14, e115_19, e115_23, e115_24]
  by_cases h1 : x1 = 0
  · simp +decide [h1, zbool]
  by_cases h2 : x0 = x1
  · simp +decide [h1, h2, zbool]
  by_cases h3 : x0 = 3 <;> by_cases h4 : x1 = 2 <;> simp +decide [h1, h2, h3, h4, zbool] <;> simp_all [zbool]
theorem T164 (d : Nat) (Z : List (Nat × Nat)) (I : Nat → Nat → Int32) (P : Nat → Nat → Nat) (x0 x1 : Int32) : zR d 164 0 [.int x0, .int x1] [] (Z, I, P) = some (some (.int (if x1 = 0 ∨ x0 = x1 ∨ (x0 = 3 ∧ x1 = 2) then 1 else 0)), (Z, I, P)) := by
  simp only [e164_0, e164_4, e164_9, e164_14, e164_19, e164_23, e164_24]
  by_cases h1 : x1 = 0
  · simp +decide [h1, zbool]
  by_cases h2 : x0 = x1
  · simp +decide [h1, h2, zbool]
  by_cases h3 : x0 = 3 <;> by_cases h4 : x1 = 2 <;> simp +decide [h1, h2, h3, h4, zbool] <;> simp_all [zbool]
theorem T74 (d : Nat) (Z : List (Nat × Nat)) (I : Nat → Nat → Int32) (P : Nat → Nat → Nat) (r0 : Nat) (x1 x2 x3 : Int32) : zR d 74 0 [.ref r0, .int x1, .int x2, .int x3] [] (Z, I, P) = bif zisO Z r0 7 then some (none, (Z, zup (zup (zup I r0 0 x1) r0 1 x2) r0 2 x3, P)) else none := by
  rw [e74_0]
  cases zisO Z r0 7 <;> rfl
theorem T1 (d : Nat) (Z : List (Nat × Nat)) (I : Nat → Nat → Int32) (P : Nat → Nat → Nat) (r0 : Nat) (x1 x2 : Int32) : zR d 1 0 [.ref r0, .int x1, .int x2] [] (Z, I, P) = bif zisO Z r0 0 then some (none, (Z, zup (zup (zup (zup I r0 0 x1) r0 1 x2) r0 2 0) r0 3 0, P)) else none := by
  rw [e1_0]
  cases zisO Z r0 0 <;> rfl
theorem T85 (d : Nat) (Z : List (Nat × Nat)) (I : Nat → Nat → Int32) (P : Nat → Nat → Nat) (r0 : Nat) (x1 : Int32) : zR d 85 0 [.ref r0, .int x1] [] (Z, I, P) = bif zisO Z r0 10 then some (some (.int (if 0 ≤ x1 ∧ ¬ I r0 6 ≤ x1 then 1 else 0)), (Z, I, P)) else if x1 < 0 then some (some (.int 0), (Z, I, P)) else none := by
  simp only [e85_0, e85_4, e85_12, e85_16, e85_17, ← Int32.not_lt]
  by_cases h1 : x1 < 0
  · cases zisO Z r0 10 <;> simp [h1, zbool]
  · cases zisO Z r0 10 <;> by_cases h2 : x1 < I r0 6 <;> simp [h1, h2, zbool]
theorem T86 (d : Nat) (Z : List (Nat × Nat)) (I : Nat → Nat → Int32) (P : Nat → Nat → Nat) (r0 : Nat) (x1 : Int32) : zR d 86 0 [.ref r0, .int x1] [] (Z, I, P) = bif zisO Z r0 10 then some (some (.int (if 0 ≤ x1 ∧ ¬ I r0 7 ≤ x1 then 1 else 0)), (Z, I, P)) else if x1 < 0 then some (some (.int 0), (Z, I, P)) else none := by
  simp only [e86_0, e86_4, e86_12, e86_16, e86_17, ← Int32.not_lt]
  by_cases h1 : x1 < 0
  · cases zisO Z r0 10 <;> simp [h1, zbool]
  · cases zisO Z r0 10 <;> by_cases h2 : x1 < I r0 7 <;> simp [h1, h2, zbool]
