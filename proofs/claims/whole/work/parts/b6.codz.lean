/-! the rows of code are the bytes, together; printed by wip/gen/cod.py -/
theorem zall_c {α : Type} {p : α → Bool} : ∀ (m : Nat) (l : List α), (∀ j, j < m → ((l.drop (60 * j)).take 60).all p = true) → l.length ≤ 60 * m → l.all p = true
  | 0, l, _, hl => by
    have e : l = [] := List.eq_nil_of_length_eq_zero (by omega)
    rw [e]; rfl
  | m + 1, l, h, hl => by
    rw [← List.take_append_drop 60 l, List.all_append, Bool.and_eq_true]
    refine ⟨h 0 (by omega), zall_c m (l.drop 60) (fun j hj => ?_) (by rw [List.length_drop]; omega)⟩
    have := h (j + 1) (by omega)
    rw [List.drop_drop]
    first
      | rw [show 60 + 60 * j = 60 * (j + 1) by omega]; exact this
      | rw [show 60 * j + 60 = 60 * (j + 1) by omega]; exact this
theorem zcodA {y : Nat} (m : Nat) (h : ∀ j, j < m → zPk y j = true) (hl : (zK y).length ≤ 60 * m) : (zK y).all (fun r => zchk y r && zchkF y r) = true := zall_c m (zK y) h hl
theorem zpu {P : Nat → Prop} {n : Nat} (h : ∀ y, y < n → P y) (q : P n) : ∀ y, y < n + 1 → P y := fun y hy => (Nat.lt_or_eq_of_le (Nat.le_of_lt_succ hy)).elim (h y) (fun e => e ▸ q)
theorem zp0 {P : Nat → Prop} : ∀ y, y < 0 → P y := fun _ h => absurd h (Nat.not_lt_zero _)
def zPcod (y : Nat) : Prop := (zK y).all (fun r => zchk y r && zchkF y r) = true

set_option maxRecDepth 100000 in
theorem zcod_0 : zPcod 0 := zcodA 1 ((zpu (n := 0) zp0 zk_0_0) : ∀ j, j < 1 → (fun j => zPk 0 j = true) j) (by decide +kernel)
set_option maxRecDepth 100000 in
theorem zcod_1 : zPcod 1 := zcodA 1 ((zpu (n := 0) zp0 zk_1_0) : ∀ j, j < 1 → (fun j => zPk 1 j = true) j) (by decide +kernel)
set_option maxRecDepth 100000 in
theorem zcod_2 : zPcod 2 := zcodA 1 ((zpu (n := 0) zp0 zk_2_0) : ∀ j, j < 1 → (fun j => zPk 2 j = true) j) (by decide +kernel)
set_option maxRecDepth 100000 in
theorem zcod_3 : zPcod 3 := zcodA 1 ((zpu (n := 0) zp0 zk_3_0) : ∀ j, j < 1 → (fun j => zPk 3 j = true) j) (by decide +kernel)
set_option maxRecDepth 100000 in
theorem zcod_4 : zPcod 4 := zcodA 1 ((zpu (n := 0) zp0 zk_4_0) : ∀ j, j < 1 → (fun j => zPk 4 j = true) j) (by decide +kernel)
set_option maxRecDepth 100000 in
theorem zcod_5 : zPcod 5 := zcodA 1 ((zpu (n := 0) zp0 zk_5_0) : ∀ j, j < 1 → (fun j => zPk 5 j = true) j) (by decide +kernel)
set_option maxRecDepth 100000 in
theorem zcod_6 : zPcod 6 := zcodA 1 ((zpu (n := 0) zp0 zk_6_0) : ∀ j, j < 1 → (fun j => zPk 6 j = true) j) (by decide +kernel)
set_option maxRecDepth 100000 in
theorem zcod_7 : zPcod 7 := zcodA 1 ((zpu (n := 0) zp0 zk_7_0) : ∀ j, j < 1 → (fun j => zPk 7 j = true) j) (by decide +kernel)
set_option maxRecDepth 100000 in
theorem zcod_8 : zPcod 8 := zcodA 1 ((zpu (n := 0) zp0 zk_8_0) : ∀ j, j < 1 → (fun j => zPk 8 j = true) j) (by decide +kernel)
set_option maxRecDepth 100000 in
theorem zcod_9 : zPcod 9 := zcodA 1 ((zpu (n := 0) zp0 zk_9_0) : ∀ j, j < 1 → (fun j => zPk 9 j = true) j) (by decide +kernel)
set_option maxRecDepth 100000 in
theorem zcod_10 : zPcod 10 := zcodA 1 ((zpu (n := 0) zp0 zk_10_0) : ∀ j, j < 1 → (fun j => zPk 10 j = true) j) (by decide +kernel)
set_option maxRecDepth 100000 in
theorem zcod_11 : zPcod 11 := zcodA 1 ((zpu (n := 0) zp0 zk_11_0) : ∀ j, j < 1 → (fun j => zPk 11 j = true) j) (by decide +kernel)
set_option maxRecDepth 100000 in
theorem zcod_12 : zPcod 12 := zcodA 1 ((zpu (n := 0) zp0 zk_12_0) : ∀ j, j < 1 → (fun j => zPk 12 j = true) j) (by decide +kernel)
set_option maxRecDepth 100000 in
theorem zcod_13 : zPcod 13 := zcodA 1 ((zpu (n := 0) zp0 zk_13_0) : ∀ j, j < 1 → (fun j => zPk 13 j = true) j) (by decide +kernel)
set_option maxRecDepth 100000 in
theorem zcod_14 : zPcod 14 := zcodA 2 ((zpu (n := 1) (zpu (n := 0) zp0 zk_14_0) zk_14_1) : ∀ j, j < 2 → (fun j => zPk 14 j = true) j) (by decide +kernel)
set_option maxRecDepth 100000 in
theorem zcod_15 : zPcod 15 := zcodA 1 ((zpu (n := 0) zp0 zk_15_0) : ∀ j, j < 1 → (fun j => zPk 15 j = true) j) (by decide +kernel)
set_option maxRecDepth 100000 in
theorem zcod_16 : zPcod 16 := zcodA 1 ((zpu (n := 0) zp0 zk_16_0) : ∀ j, j < 1 → (fun j => zPk 16 j = true) j) (by decide +kernel)
set_option maxRecDepth 100000 in
theorem zcod_17 : zPcod 17 := zcodA 1 ((zpu (n := 0) zp0 zk_17_0) : ∀ j, j < 1 → (fun j => zPk 17 j = true) j) (by decide +kernel)
set_option maxRecDepth 100000 in
theorem zcod_18 : zPcod 18 := zcodA 1 ((zpu (n := 0) zp0 zk_18_0) : ∀ j, j < 1 → (fun j => zPk 18 j = true) j) (by decide +kernel)
set_option maxRecDepth 100000 in
theorem zcod_19 : zPcod 19 := zcodA 1 ((zpu (n := 0) zp0 zk_19_0) : ∀ j, j < 1 → (fun j => zPk 19 j = true) j) (by decide +kernel)
set_option maxRecDepth 100000 in
theorem zcod_20 : zPcod 20 := zcodA 1 ((zpu (n := 0) zp0 zk_20_0) : ∀ j, j < 1 → (fun j => zPk 20 j = true) j) (by decide +kernel)
set_option maxRecDepth 100000 in
theorem zcod_21 : zPcod 21 := zcodA 1 ((zpu (n := 0) zp0 zk_21_0) : ∀ j, j < 1 → (fun j => zPk 21 j = true) j) (by decide +kernel)
set_option maxRecDepth 100000 in
theorem zcod_22 : zPcod 22 := zcodA 1 ((zpu (n := 0) zp0 zk_22_0) : ∀ j, j < 1 → (fun j => zPk 22 j = true) j) (by decide +kernel)
set_option maxRecDepth 100000 in
theorem zcod_23 : zPcod 23 := zcodA 1 ((zpu (n := 0) zp0 zk_23_0) : ∀ j, j < 1 → (fun j => zPk 23 j = true) j) (by decide +kernel)
set_option maxRecDepth 100000 in
theorem zcod_24 : zPcod 24 := zcodA 1 ((zpu (n := 0) zp0 zk_24_0) : ∀ j, j < 1 → (fun j => zPk 24 j = true) j) (by decide +kernel)
set_option maxRecDepth 100000 in
theorem zcod_25 : zPcod 25 := zcodA 2 ((zpu (n := 1) (zpu (n := 0) zp0 zk_25_0) zk_25_1) : ∀ j, j < 2 → (fun j => zPk 25 j = true) j) (by decide +kernel)
set_option maxRecDepth 100000 in
theorem zcod_26 : zPcod 26 := zcodA 1 ((zpu (n := 0) zp0 zk_26_0) : ∀ j, j < 1 → (fun j => zPk 26 j = true) j) (by decide +kernel)
set_option maxRecDepth 100000 in
theorem zcod_27 : zPcod 27 := zcodA 1 ((zpu (n := 0) zp0 zk_27_0) : ∀ j, j < 1 → (fun j => zPk 27 j = true) j) (by decide +kernel)
set_option maxRecDepth 100000 in
theorem zcod_28 : zPcod 28 := zcodA 1 ((zpu (n := 0) zp0 zk_28_0) : ∀ j, j < 1 → (fun j => zPk 28 j = true) j) (by decide +kernel)
set_option maxRecDepth 100000 in
theorem zcod_29 : zPcod 29 := zcodA 1 ((zpu (n := 0) zp0 zk_29_0) : ∀ j, j < 1 → (fun j => zPk 29 j = true) j) (by decide +kernel)
set_option maxRecDepth 100000 in
theorem zcod_30 : zPcod 30 := zcodA 1 ((zpu (n := 0) zp0 zk_30_0) : ∀ j, j < 1 → (fun j => zPk 30 j = true) j) (by decide +kernel)
set_option maxRecDepth 100000 in
theorem zcod_31 : zPcod 31 := zcodA 1 ((zpu (n := 0) zp0 zk_31_0) : ∀ j, j < 1 → (fun j => zPk 31 j = true) j) (by decide +kernel)
set_option maxRecDepth 100000 in
theorem zcod_32 : zPcod 32 := zcodA 1 ((zpu (n := 0) zp0 zk_32_0) : ∀ j, j < 1 → (fun j => zPk 32 j = true) j) (by decide +kernel)
set_option maxRecDepth 100000 in
theorem zcod_33 : zPcod 33 := zcodA 1 ((zpu (n := 0) zp0 zk_33_0) : ∀ j, j < 1 → (fun j => zPk 33 j = true) j) (by decide +kernel)
set_option maxRecDepth 100000 in
theorem zcod_34 : zPcod 34 := zcodA 1 ((zpu (n := 0) zp0 zk_34_0) : ∀ j, j < 1 → (fun j => zPk 34 j = true) j) (by decide +kernel)
set_option maxRecDepth 100000 in
theorem zcod_35 : zPcod 35 := zcodA 1 ((zpu (n := 0) zp0 zk_35_0) : ∀ j, j < 1 → (fun j => zPk 35 j = true) j) (by decide +kernel)
set_option maxRecDepth 100000 in
theorem zcod_36 : zPcod 36 := zcodA 1 ((zpu (n := 0) zp0 zk_36_0) : ∀ j, j < 1 → (fun j => zPk 36 j = true) j) (by decide +kernel)
set_option maxRecDepth 100000 in
theorem zcod_37 : zPcod 37 := zcodA 1 ((zpu (n := 0) zp0 zk_37_0) : ∀ j, j < 1 → (fun j => zPk 37 j = true) j) (by decide +kernel)
set_option maxRecDepth 100000 in
theorem zcod_38 : zPcod 38 := zcodA 1 ((zpu (n := 0) zp0 zk_38_0) : ∀ j, j < 1 → (fun j => zPk 38 j = true) j) (by decide +kernel)
set_option maxRecDepth 100000 in
theorem zcod_39 : zPcod 39 := zcodA 1 ((zpu (n := 0) zp0 zk_39_0) : ∀ j, j < 1 → (fun j => zPk 39 j = true) j) (by decide +kernel)
set_option maxRecDepth 100000 in
theorem zcod_40 : zPcod 40 := zcodA 1 ((zpu (n := 0) zp0 zk_40_0) : ∀ j, j < 1 → (fun j => zPk 40 j = true) j) (by decide +kernel)
set_option maxRecDepth 100000 in
theorem zcod_41 : zPcod 41 := zcodA 1 ((zpu (n := 0) zp0 zk_41_0) : ∀ j, j < 1 → (fun j => zPk 41 j = true) j) (by decide +kernel)
set_option maxRecDepth 100000 in
theorem zcod_42 : zPcod 42 := zcodA 1 ((zpu (n := 0) zp0 zk_42_0) : ∀ j, j < 1 → (fun j => zPk 42 j = true) j) (by decide +kernel)
set_option maxRecDepth 100000 in
theorem zcod_43 : zPcod 43 := zcodA 1 ((zpu (n := 0) zp0 zk_43_0) : ∀ j, j < 1 → (fun j => zPk 43 j = true) j) (by decide +kernel)
set_option maxRecDepth 100000 in
theorem zcod_44 : zPcod 44 := zcodA 1 ((zpu (n := 0) zp0 zk_44_0) : ∀ j, j < 1 → (fun j => zPk 44 j = true) j) (by decide +kernel)
set_option maxRecDepth 100000 in
theorem zcod_45 : zPcod 45 := zcodA 1 ((zpu (n := 0) zp0 zk_45_0) : ∀ j, j < 1 → (fun j => zPk 45 j = true) j) (by decide +kernel)
set_option maxRecDepth 100000 in
theorem zcod_46 : zPcod 46 := zcodA 1 ((zpu (n := 0) zp0 zk_46_0) : ∀ j, j < 1 → (fun j => zPk 46 j = true) j) (by decide +kernel)
set_option maxRecDepth 100000 in
theorem zcod_47 : zPcod 47 := zcodA 1 ((zpu (n := 0) zp0 zk_47_0) : ∀ j, j < 1 → (fun j => zPk 47 j = true) j) (by decide +kernel)
set_option maxRecDepth 100000 in
theorem zcod_48 : zPcod 48 := zcodA 1 ((zpu (n := 0) zp0 zk_48_0) : ∀ j, j < 1 → (fun j => zPk 48 j = true) j) (by decide +kernel)
set_option maxRecDepth 100000 in
theorem zcod_49 : zPcod 49 := zcodA 1 ((zpu (n := 0) zp0 zk_49_0) : ∀ j, j < 1 → (fun j => zPk 49 j = true) j) (by decide +kernel)
set_option maxRecDepth 100000 in
theorem zcod_50 : zPcod 50 := zcodA 2 ((zpu (n := 1) (zpu (n := 0) zp0 zk_50_0) zk_50_1) : ∀ j, j < 2 → (fun j => zPk 50 j = true) j) (by decide +kernel)
set_option maxRecDepth 100000 in
theorem zcod_51 : zPcod 51 := zcodA 1 ((zpu (n := 0) zp0 zk_51_0) : ∀ j, j < 1 → (fun j => zPk 51 j = true) j) (by decide +kernel)
set_option maxRecDepth 100000 in
theorem zcod_52 : zPcod 52 := zcodA 2 ((zpu (n := 1) (zpu (n := 0) zp0 zk_52_0) zk_52_1) : ∀ j, j < 2 → (fun j => zPk 52 j = true) j) (by decide +kernel)
set_option maxRecDepth 100000 in
theorem zcod_53 : zPcod 53 := zcodA 1 ((zpu (n := 0) zp0 zk_53_0) : ∀ j, j < 1 → (fun j => zPk 53 j = true) j) (by decide +kernel)
set_option maxRecDepth 100000 in
theorem zcod_54 : zPcod 54 := zcodA 1 ((zpu (n := 0) zp0 zk_54_0) : ∀ j, j < 1 → (fun j => zPk 54 j = true) j) (by decide +kernel)
set_option maxRecDepth 100000 in
theorem zcod_55 : zPcod 55 := zcodA 1 ((zpu (n := 0) zp0 zk_55_0) : ∀ j, j < 1 → (fun j => zPk 55 j = true) j) (by decide +kernel)
set_option maxRecDepth 100000 in
theorem zcod_56 : zPcod 56 := zcodA 1 ((zpu (n := 0) zp0 zk_56_0) : ∀ j, j < 1 → (fun j => zPk 56 j = true) j) (by decide +kernel)
set_option maxRecDepth 100000 in
theorem zcod_57 : zPcod 57 := zcodA 1 ((zpu (n := 0) zp0 zk_57_0) : ∀ j, j < 1 → (fun j => zPk 57 j = true) j) (by decide +kernel)
set_option maxRecDepth 100000 in
theorem zcod_58 : zPcod 58 := zcodA 2 ((zpu (n := 1) (zpu (n := 0) zp0 zk_58_0) zk_58_1) : ∀ j, j < 2 → (fun j => zPk 58 j = true) j) (by decide +kernel)
set_option maxRecDepth 100000 in
theorem zcod_59 : zPcod 59 := zcodA 2 ((zpu (n := 1) (zpu (n := 0) zp0 zk_59_0) zk_59_1) : ∀ j, j < 2 → (fun j => zPk 59 j = true) j) (by decide +kernel)
set_option maxRecDepth 100000 in
theorem zcod_60 : zPcod 60 := zcodA 1 ((zpu (n := 0) zp0 zk_60_0) : ∀ j, j < 1 → (fun j => zPk 60 j = true) j) (by decide +kernel)
set_option maxRecDepth 100000 in
theorem zcod_61 : zPcod 61 := zcodA 1 ((zpu (n := 0) zp0 zk_61_0) : ∀ j, j < 1 → (fun j => zPk 61 j = true) j) (by decide +kernel)
set_option maxRecDepth 100000 in
theorem zcod_62 : zPcod 62 := zcodA 1 ((zpu (n := 0) zp0 zk_62_0) : ∀ j, j < 1 → (fun j => zPk 62 j = true) j) (by decide +kernel)
set_option maxRecDepth 100000 in
theorem zcod_63 : zPcod 63 := zcodA 1 ((zpu (n := 0) zp0 zk_63_0) : ∀ j, j < 1 → (fun j => zPk 63 j = true) j) (by decide +kernel)
set_option maxRecDepth 100000 in
theorem zcod_64 : zPcod 64 := zcodA 2 ((zpu (n := 1) (zpu (n := 0) zp0 zk_64_0) zk_64_1) : ∀ j, j < 2 → (fun j => zPk 64 j = true) j) (by decide +kernel)
set_option maxRecDepth 100000 in
theorem zcod_65 : zPcod 65 := zcodA 1 ((zpu (n := 0) zp0 zk_65_0) : ∀ j, j < 1 → (fun j => zPk 65 j = true) j) (by decide +kernel)
set_option maxRecDepth 100000 in
theorem zcod_66 : zPcod 66 := zcodA 1 ((zpu (n := 0) zp0 zk_66_0) : ∀ j, j < 1 → (fun j => zPk 66 j = true) j) (by decide +kernel)
set_option maxRecDepth 100000 in
theorem zcod_67 : zPcod 67 := zcodA 1 ((zpu (n := 0) zp0 zk_67_0) : ∀ j, j < 1 → (fun j => zPk 67 j = true) j) (by decide +kernel)
set_option maxRecDepth 100000 in
theorem zcod_68 : zPcod 68 := zcodA 3 ((zpu (n := 2) (zpu (n := 1) (zpu (n := 0) zp0 zk_68_0) zk_68_1) zk_68_2) : ∀ j, j < 3 → (fun j => zPk 68 j = true) j) (by decide +kernel)
set_option maxRecDepth 100000 in
theorem zcod_69 : zPcod 69 := zcodA 1 ((zpu (n := 0) zp0 zk_69_0) : ∀ j, j < 1 → (fun j => zPk 69 j = true) j) (by decide +kernel)
set_option maxRecDepth 100000 in
theorem zcod_70 : zPcod 70 := zcodA 1 ((zpu (n := 0) zp0 zk_70_0) : ∀ j, j < 1 → (fun j => zPk 70 j = true) j) (by decide +kernel)
set_option maxRecDepth 100000 in
theorem zcod_71 : zPcod 71 := zcodA 1 ((zpu (n := 0) zp0 zk_71_0) : ∀ j, j < 1 → (fun j => zPk 71 j = true) j) (by decide +kernel)
set_option maxRecDepth 100000 in
theorem zcod_72 : zPcod 72 := zcodA 1 ((zpu (n := 0) zp0 zk_72_0) : ∀ j, j < 1 → (fun j => zPk 72 j = true) j) (by decide +kernel)
set_option maxRecDepth 100000 in
theorem zcod_73 : zPcod 73 := zcodA 1 ((zpu (n := 0) zp0 zk_73_0) : ∀ j, j < 1 → (fun j => zPk 73 j = true) j) (by decide +kernel)
set_option maxRecDepth 100000 in
theorem zcod_74 : zPcod 74 := zcodA 1 ((zpu (n := 0) zp0 zk_74_0) : ∀ j, j < 1 → (fun j => zPk 74 j = true) j) (by decide +kernel)
set_option maxRecDepth 100000 in
theorem zcod_75 : zPcod 75 := zcodA 1 ((zpu (n := 0) zp0 zk_75_0) : ∀ j, j < 1 → (fun j => zPk 75 j = true) j) (by decide +kernel)
set_option maxRecDepth 100000 in
theorem zcod_76 : zPcod 76 := zcodA 1 ((zpu (n := 0) zp0 zk_76_0) : ∀ j, j < 1 → (fun j => zPk 76 j = true) j) (by decide +kernel)
set_option maxRecDepth 100000 in
theorem zcod_77 : zPcod 77 := zcodA 1 ((zpu (n := 0) zp0 zk_77_0) : ∀ j, j < 1 → (fun j => zPk 77 j = true) j) (by decide +kernel)
set_option maxRecDepth 100000 in
theorem zcod_78 : zPcod 78 := zcodA 1 ((zpu (n := 0) zp0 zk_78_0) : ∀ j, j < 1 → (fun j => zPk 78 j = true) j) (by decide +kernel)
set_option maxRecDepth 100000 in
theorem zcod_79 : zPcod 79 := zcodA 1 ((zpu (n := 0) zp0 zk_79_0) : ∀ j, j < 1 → (fun j => zPk 79 j = true) j) (by decide +kernel)
set_option maxRecDepth 100000 in
theorem zcod_80 : zPcod 80 := zcodA 1 ((zpu (n := 0) zp0 zk_80_0) : ∀ j, j < 1 → (fun j => zPk 80 j = true) j) (by decide +kernel)
set_option maxRecDepth 100000 in
theorem zcod_81 : zPcod 81 := zcodA 2 ((zpu (n := 1) (zpu (n := 0) zp0 zk_81_0) zk_81_1) : ∀ j, j < 2 → (fun j => zPk 81 j = true) j) (by decide +kernel)
set_option maxRecDepth 100000 in
theorem zcod_82 : zPcod 82 := zcodA 1 ((zpu (n := 0) zp0 zk_82_0) : ∀ j, j < 1 → (fun j => zPk 82 j = true) j) (by decide +kernel)
set_option maxRecDepth 100000 in
theorem zcod_83 : zPcod 83 := zcodA 1 ((zpu (n := 0) zp0 zk_83_0) : ∀ j, j < 1 → (fun j => zPk 83 j = true) j) (by decide +kernel)
set_option maxRecDepth 100000 in
theorem zcod_84 : zPcod 84 := zcodA 3 ((zpu (n := 2) (zpu (n := 1) (zpu (n := 0) zp0 zk_84_0) zk_84_1) zk_84_2) : ∀ j, j < 3 → (fun j => zPk 84 j = true) j) (by decide +kernel)
set_option maxRecDepth 100000 in
theorem zcod_85 : zPcod 85 := zcodA 1 ((zpu (n := 0) zp0 zk_85_0) : ∀ j, j < 1 → (fun j => zPk 85 j = true) j) (by decide +kernel)
set_option maxRecDepth 100000 in
theorem zcod_86 : zPcod 86 := zcodA 1 ((zpu (n := 0) zp0 zk_86_0) : ∀ j, j < 1 → (fun j => zPk 86 j = true) j) (by decide +kernel)
set_option maxRecDepth 100000 in
theorem zcod_87 : zPcod 87 := zcodA 1 ((zpu (n := 0) zp0 zk_87_0) : ∀ j, j < 1 → (fun j => zPk 87 j = true) j) (by decide +kernel)
set_option maxRecDepth 100000 in
theorem zcod_88 : zPcod 88 := zcodA 1 ((zpu (n := 0) zp0 zk_88_0) : ∀ j, j < 1 → (fun j => zPk 88 j = true) j) (by decide +kernel)
set_option maxRecDepth 100000 in
theorem zcod_89 : zPcod 89 := zcodA 1 ((zpu (n := 0) zp0 zk_89_0) : ∀ j, j < 1 → (fun j => zPk 89 j = true) j) (by decide +kernel)
set_option maxRecDepth 100000 in
theorem zcod_90 : zPcod 90 := zcodA 1 ((zpu (n := 0) zp0 zk_90_0) : ∀ j, j < 1 → (fun j => zPk 90 j = true) j) (by decide +kernel)
set_option maxRecDepth 100000 in
theorem zcod_91 : zPcod 91 := zcodA 1 ((zpu (n := 0) zp0 zk_91_0) : ∀ j, j < 1 → (fun j => zPk 91 j = true) j) (by decide +kernel)
set_option maxRecDepth 100000 in
theorem zcod_92 : zPcod 92 := zcodA 2 ((zpu (n := 1) (zpu (n := 0) zp0 zk_92_0) zk_92_1) : ∀ j, j < 2 → (fun j => zPk 92 j = true) j) (by decide +kernel)
set_option maxRecDepth 100000 in
theorem zcod_93 : zPcod 93 := zcodA 1 ((zpu (n := 0) zp0 zk_93_0) : ∀ j, j < 1 → (fun j => zPk 93 j = true) j) (by decide +kernel)
set_option maxRecDepth 100000 in
theorem zcod_94 : zPcod 94 := zcodA 1 ((zpu (n := 0) zp0 zk_94_0) : ∀ j, j < 1 → (fun j => zPk 94 j = true) j) (by decide +kernel)
set_option maxRecDepth 100000 in
theorem zcod_95 : zPcod 95 := zcodA 1 ((zpu (n := 0) zp0 zk_95_0) : ∀ j, j < 1 → (fun j => zPk 95 j = true) j) (by decide +kernel)
set_option maxRecDepth 100000 in
theorem zcod_96 : zPcod 96 := zcodA 1 ((zpu (n := 0) zp0 zk_96_0) : ∀ j, j < 1 → (fun j => zPk 96 j = true) j) (by decide +kernel)
set_option maxRecDepth 100000 in
theorem zcod_97 : zPcod 97 := zcodA 1 ((zpu (n := 0) zp0 zk_97_0) : ∀ j, j < 1 → (fun j => zPk 97 j = true) j) (by decide +kernel)
set_option maxRecDepth 100000 in
theorem zcod_98 : zPcod 98 := zcodA 1 ((zpu (n := 0) zp0 zk_98_0) : ∀ j, j < 1 → (fun j => zPk 98 j = true) j) (by decide +kernel)
set_option maxRecDepth 100000 in
theorem zcod_99 : zPcod 99 := zcodA 1 ((zpu (n := 0) zp0 zk_99_0) : ∀ j, j < 1 → (fun j => zPk 99 j = true) j) (by decide +kernel)
set_option maxRecDepth 100000 in
theorem zcod_100 : zPcod 100 := zcodA 2 ((zpu (n := 1) (zpu (n := 0) zp0 zk_100_0) zk_100_1) : ∀ j, j < 2 → (fun j => zPk 100 j = true) j) (by decide +kernel)
set_option maxRecDepth 100000 in
theorem zcod_101 : zPcod 101 := zcodA 2 ((zpu (n := 1) (zpu (n := 0) zp0 zk_101_0) zk_101_1) : ∀ j, j < 2 → (fun j => zPk 101 j = true) j) (by decide +kernel)
set_option maxRecDepth 100000 in
theorem zcod_102 : zPcod 102 := zcodA 3 ((zpu (n := 2) (zpu (n := 1) (zpu (n := 0) zp0 zk_102_0) zk_102_1) zk_102_2) : ∀ j, j < 3 → (fun j => zPk 102 j = true) j) (by decide +kernel)
set_option maxRecDepth 100000 in
theorem zcod_103 : zPcod 103 := zcodA 1 ((zpu (n := 0) zp0 zk_103_0) : ∀ j, j < 1 → (fun j => zPk 103 j = true) j) (by decide +kernel)
set_option maxRecDepth 100000 in
theorem zcod_104 : zPcod 104 := zcodA 2 ((zpu (n := 1) (zpu (n := 0) zp0 zk_104_0) zk_104_1) : ∀ j, j < 2 → (fun j => zPk 104 j = true) j) (by decide +kernel)
set_option maxRecDepth 100000 in
theorem zcod_105 : zPcod 105 := zcodA 1 ((zpu (n := 0) zp0 zk_105_0) : ∀ j, j < 1 → (fun j => zPk 105 j = true) j) (by decide +kernel)
set_option maxRecDepth 100000 in
theorem zcod_106 : zPcod 106 := zcodA 1 ((zpu (n := 0) zp0 zk_106_0) : ∀ j, j < 1 → (fun j => zPk 106 j = true) j) (by decide +kernel)
set_option maxRecDepth 100000 in
theorem zcod_107 : zPcod 107 := zcodA 1 ((zpu (n := 0) zp0 zk_107_0) : ∀ j, j < 1 → (fun j => zPk 107 j = true) j) (by decide +kernel)
set_option maxRecDepth 100000 in
theorem zcod_108 : zPcod 108 := zcodA 1 ((zpu (n := 0) zp0 zk_108_0) : ∀ j, j < 1 → (fun j => zPk 108 j = true) j) (by decide +kernel)
set_option maxRecDepth 100000 in
theorem zcod_109 : zPcod 109 := zcodA 1 ((zpu (n := 0) zp0 zk_109_0) : ∀ j, j < 1 → (fun j => zPk 109 j = true) j) (by decide +kernel)
set_option maxRecDepth 100000 in
theorem zcod_110 : zPcod 110 := zcodA 1 ((zpu (n := 0) zp0 zk_110_0) : ∀ j, j < 1 → (fun j => zPk 110 j = true) j) (by decide +kernel)
set_option maxRecDepth 100000 in
theorem zcod_111 : zPcod 111 := zcodA 1 ((zpu (n := 0) zp0 zk_111_0) : ∀ j, j < 1 → (fun j => zPk 111 j = true) j) (by decide +kernel)
set_option maxRecDepth 100000 in
theorem zcod_112 : zPcod 112 := zcodA 1 ((zpu (n := 0) zp0 zk_112_0) : ∀ j, j < 1 → (fun j => zPk 112 j = true) j) (by decide +kernel)
set_option maxRecDepth 100000 in
theorem zcod_113 : zPcod 113 := zcodA 2 ((zpu (n := 1) (zpu (n := 0) zp0 zk_113_0) zk_113_1) : ∀ j, j < 2 → (fun j => zPk 113 j = true) j) (by decide +kernel)
set_option maxRecDepth 100000 in
theorem zcod_114 : zPcod 114 := zcodA 1 ((zpu (n := 0) zp0 zk_114_0) : ∀ j, j < 1 → (fun j => zPk 114 j = true) j) (by decide +kernel)
set_option maxRecDepth 100000 in
theorem zcod_115 : zPcod 115 := zcodA 1 ((zpu (n := 0) zp0 zk_115_0) : ∀ j, j < 1 → (fun j => zPk 115 j = true) j) (by decide +kernel)
set_option maxRecDepth 100000 in
theorem zcod_116 : zPcod 116 := zcodA 1 ((zpu (n := 0) zp0 zk_116_0) : ∀ j, j < 1 → (fun j => zPk 116 j = true) j) (by decide +kernel)
set_option maxRecDepth 100000 in
theorem zcod_117 : zPcod 117 := zcodA 1 ((zpu (n := 0) zp0 zk_117_0) : ∀ j, j < 1 → (fun j => zPk 117 j = true) j) (by decide +kernel)
set_option maxRecDepth 100000 in
theorem zcod_118 : zPcod 118 := zcodA 1 ((zpu (n := 0) zp0 zk_118_0) : ∀ j, j < 1 → (fun j => zPk 118 j = true) j) (by decide +kernel)
set_option maxRecDepth 100000 in
theorem zcod_119 : zPcod 119 := zcodA 1 ((zpu (n := 0) zp0 zk_119_0) : ∀ j, j < 1 → (fun j => zPk 119 j = true) j) (by decide +kernel)
set_option maxRecDepth 100000 in
theorem zcod_120 : zPcod 120 := zcodA 1 ((zpu (n := 0) zp0 zk_120_0) : ∀ j, j < 1 → (fun j => zPk 120 j = true) j) (by decide +kernel)
set_option maxRecDepth 100000 in
theorem zcod_121 : zPcod 121 := zcodA 1 ((zpu (n := 0) zp0 zk_121_0) : ∀ j, j < 1 → (fun j => zPk 121 j = true) j) (by decide +kernel)
set_option maxRecDepth 100000 in
theorem zcod_122 : zPcod 122 := zcodA 2 ((zpu (n := 1) (zpu (n := 0) zp0 zk_122_0) zk_122_1) : ∀ j, j < 2 → (fun j => zPk 122 j = true) j) (by decide +kernel)
set_option maxRecDepth 100000 in
theorem zcod_123 : zPcod 123 := zcodA 1 ((zpu (n := 0) zp0 zk_123_0) : ∀ j, j < 1 → (fun j => zPk 123 j = true) j) (by decide +kernel)
set_option maxRecDepth 100000 in
theorem zcod_124 : zPcod 124 := zcodA 1 ((zpu (n := 0) zp0 zk_124_0) : ∀ j, j < 1 → (fun j => zPk 124 j = true) j) (by decide +kernel)
set_option maxRecDepth 100000 in
theorem zcod_125 : zPcod 125 := zcodA 1 ((zpu (n := 0) zp0 zk_125_0) : ∀ j, j < 1 → (fun j => zPk 125 j = true) j) (by decide +kernel)
set_option maxRecDepth 100000 in
theorem zcod_126 : zPcod 126 := zcodA 1 ((zpu (n := 0) zp0 zk_126_0) : ∀ j, j < 1 → (fun j => zPk 126 j = true) j) (by decide +kernel)
set_option maxRecDepth 100000 in
theorem zcod_127 : zPcod 127 := zcodA 2 ((zpu (n := 1) (zpu (n := 0) zp0 zk_127_0) zk_127_1) : ∀ j, j < 2 → (fun j => zPk 127 j = true) j) (by decide +kernel)
set_option maxRecDepth 100000 in
theorem zcod_128 : zPcod 128 := zcodA 1 ((zpu (n := 0) zp0 zk_128_0) : ∀ j, j < 1 → (fun j => zPk 128 j = true) j) (by decide +kernel)
set_option maxRecDepth 100000 in
theorem zcod_129 : zPcod 129 := zcodA 1 ((zpu (n := 0) zp0 zk_129_0) : ∀ j, j < 1 → (fun j => zPk 129 j = true) j) (by decide +kernel)
set_option maxRecDepth 100000 in
theorem zcod_130 : zPcod 130 := zcodA 1 ((zpu (n := 0) zp0 zk_130_0) : ∀ j, j < 1 → (fun j => zPk 130 j = true) j) (by decide +kernel)
set_option maxRecDepth 100000 in
theorem zcod_131 : zPcod 131 := zcodA 1 ((zpu (n := 0) zp0 zk_131_0) : ∀ j, j < 1 → (fun j => zPk 131 j = true) j) (by decide +kernel)
set_option maxRecDepth 100000 in
theorem zcod_132 : zPcod 132 := zcodA 2 ((zpu (n := 1) (zpu (n := 0) zp0 zk_132_0) zk_132_1) : ∀ j, j < 2 → (fun j => zPk 132 j = true) j) (by decide +kernel)
set_option maxRecDepth 100000 in
theorem zcod_133 : zPcod 133 := zcodA 2 ((zpu (n := 1) (zpu (n := 0) zp0 zk_133_0) zk_133_1) : ∀ j, j < 2 → (fun j => zPk 133 j = true) j) (by decide +kernel)
set_option maxRecDepth 100000 in
theorem zcod_134 : zPcod 134 := zcodA 1 ((zpu (n := 0) zp0 zk_134_0) : ∀ j, j < 1 → (fun j => zPk 134 j = true) j) (by decide +kernel)
set_option maxRecDepth 100000 in
theorem zcod_135 : zPcod 135 := zcodA 1 ((zpu (n := 0) zp0 zk_135_0) : ∀ j, j < 1 → (fun j => zPk 135 j = true) j) (by decide +kernel)
set_option maxRecDepth 100000 in
theorem zcod_136 : zPcod 136 := zcodA 2 ((zpu (n := 1) (zpu (n := 0) zp0 zk_136_0) zk_136_1) : ∀ j, j < 2 → (fun j => zPk 136 j = true) j) (by decide +kernel)
set_option maxRecDepth 100000 in
theorem zcod_137 : zPcod 137 := zcodA 1 ((zpu (n := 0) zp0 zk_137_0) : ∀ j, j < 1 → (fun j => zPk 137 j = true) j) (by decide +kernel)
set_option maxRecDepth 100000 in
theorem zcod_138 : zPcod 138 := zcodA 1 ((zpu (n := 0) zp0 zk_138_0) : ∀ j, j < 1 → (fun j => zPk 138 j = true) j) (by decide +kernel)
set_option maxRecDepth 100000 in
theorem zcod_139 : zPcod 139 := zcodA 2 ((zpu (n := 1) (zpu (n := 0) zp0 zk_139_0) zk_139_1) : ∀ j, j < 2 → (fun j => zPk 139 j = true) j) (by decide +kernel)
set_option maxRecDepth 100000 in
theorem zcod_140 : zPcod 140 := zcodA 1 ((zpu (n := 0) zp0 zk_140_0) : ∀ j, j < 1 → (fun j => zPk 140 j = true) j) (by decide +kernel)
set_option maxRecDepth 100000 in
theorem zcod_141 : zPcod 141 := zcodA 1 ((zpu (n := 0) zp0 zk_141_0) : ∀ j, j < 1 → (fun j => zPk 141 j = true) j) (by decide +kernel)
set_option maxRecDepth 100000 in
theorem zcod_142 : zPcod 142 := zcodA 1 ((zpu (n := 0) zp0 zk_142_0) : ∀ j, j < 1 → (fun j => zPk 142 j = true) j) (by decide +kernel)
set_option maxRecDepth 100000 in
theorem zcod_143 : zPcod 143 := zcodA 1 ((zpu (n := 0) zp0 zk_143_0) : ∀ j, j < 1 → (fun j => zPk 143 j = true) j) (by decide +kernel)
set_option maxRecDepth 100000 in
theorem zcod_144 : zPcod 144 := zcodA 1 ((zpu (n := 0) zp0 zk_144_0) : ∀ j, j < 1 → (fun j => zPk 144 j = true) j) (by decide +kernel)
set_option maxRecDepth 100000 in
theorem zcod_145 : zPcod 145 := zcodA 1 ((zpu (n := 0) zp0 zk_145_0) : ∀ j, j < 1 → (fun j => zPk 145 j = true) j) (by decide +kernel)
set_option maxRecDepth 100000 in
theorem zcod_146 : zPcod 146 := zcodA 1 ((zpu (n := 0) zp0 zk_146_0) : ∀ j, j < 1 → (fun j => zPk 146 j = true) j) (by decide +kernel)
set_option maxRecDepth 100000 in
theorem zcod_147 : zPcod 147 := zcodA 1 ((zpu (n := 0) zp0 zk_147_0) : ∀ j, j < 1 → (fun j => zPk 147 j = true) j) (by decide +kernel)
set_option maxRecDepth 100000 in
theorem zcod_148 : zPcod 148 := zcodA 1 ((zpu (n := 0) zp0 zk_148_0) : ∀ j, j < 1 → (fun j => zPk 148 j = true) j) (by decide +kernel)
set_option maxRecDepth 100000 in
theorem zcod_149 : zPcod 149 := zcodA 1 ((zpu (n := 0) zp0 zk_149_0) : ∀ j, j < 1 → (fun j => zPk 149 j = true) j) (by decide +kernel)
set_option maxRecDepth 100000 in
theorem zcod_150 : zPcod 150 := zcodA 1 ((zpu (n := 0) zp0 zk_150_0) : ∀ j, j < 1 → (fun j => zPk 150 j = true) j) (by decide +kernel)
set_option maxRecDepth 100000 in
theorem zcod_151 : zPcod 151 := zcodA 2 ((zpu (n := 1) (zpu (n := 0) zp0 zk_151_0) zk_151_1) : ∀ j, j < 2 → (fun j => zPk 151 j = true) j) (by decide +kernel)
set_option maxRecDepth 100000 in
theorem zcod_152 : zPcod 152 := zcodA 2 ((zpu (n := 1) (zpu (n := 0) zp0 zk_152_0) zk_152_1) : ∀ j, j < 2 → (fun j => zPk 152 j = true) j) (by decide +kernel)
set_option maxRecDepth 100000 in
theorem zcod_153 : zPcod 153 := zcodA 1 ((zpu (n := 0) zp0 zk_153_0) : ∀ j, j < 1 → (fun j => zPk 153 j = true) j) (by decide +kernel)
set_option maxRecDepth 100000 in
theorem zcod_154 : zPcod 154 := zcodA 1 ((zpu (n := 0) zp0 zk_154_0) : ∀ j, j < 1 → (fun j => zPk 154 j = true) j) (by decide +kernel)
set_option maxRecDepth 100000 in
theorem zcod_155 : zPcod 155 := zcodA 3 ((zpu (n := 2) (zpu (n := 1) (zpu (n := 0) zp0 zk_155_0) zk_155_1) zk_155_2) : ∀ j, j < 3 → (fun j => zPk 155 j = true) j) (by decide +kernel)
set_option maxRecDepth 100000 in
theorem zcod_156 : zPcod 156 := zcodA 1 ((zpu (n := 0) zp0 zk_156_0) : ∀ j, j < 1 → (fun j => zPk 156 j = true) j) (by decide +kernel)
set_option maxRecDepth 100000 in
theorem zcod_157 : zPcod 157 := zcodA 1 ((zpu (n := 0) zp0 zk_157_0) : ∀ j, j < 1 → (fun j => zPk 157 j = true) j) (by decide +kernel)
set_option maxRecDepth 100000 in
theorem zcod_158 : zPcod 158 := zcodA 1 ((zpu (n := 0) zp0 zk_158_0) : ∀ j, j < 1 → (fun j => zPk 158 j = true) j) (by decide +kernel)
set_option maxRecDepth 100000 in
theorem zcod_159 : zPcod 159 := zcodA 2 ((zpu (n := 1) (zpu (n := 0) zp0 zk_159_0) zk_159_1) : ∀ j, j < 2 → (fun j => zPk 159 j = true) j) (by decide +kernel)
set_option maxRecDepth 100000 in
theorem zcod_160 : zPcod 160 := zcodA 1 ((zpu (n := 0) zp0 zk_160_0) : ∀ j, j < 1 → (fun j => zPk 160 j = true) j) (by decide +kernel)
set_option maxRecDepth 100000 in
theorem zcod_161 : zPcod 161 := zcodA 1 ((zpu (n := 0) zp0 zk_161_0) : ∀ j, j < 1 → (fun j => zPk 161 j = true) j) (by decide +kernel)
set_option maxRecDepth 100000 in
theorem zcod_162 : zPcod 162 := zcodA 1 ((zpu (n := 0) zp0 zk_162_0) : ∀ j, j < 1 → (fun j => zPk 162 j = true) j) (by decide +kernel)
set_option maxRecDepth 100000 in
theorem zcod_163 : zPcod 163 := zcodA 1 ((zpu (n := 0) zp0 zk_163_0) : ∀ j, j < 1 → (fun j => zPk 163 j = true) j) (by decide +kernel)
set_option maxRecDepth 100000 in
theorem zcod_164 : zPcod 164 := zcodA 1 ((zpu (n := 0) zp0 zk_164_0) : ∀ j, j < 1 → (fun j => zPk 164 j = true) j) (by decide +kernel)
set_option maxRecDepth 100000 in
theorem zcod_165 : zPcod 165 := zcodA 2 ((zpu (n := 1) (zpu (n := 0) zp0 zk_165_0) zk_165_1) : ∀ j, j < 2 → (fun j => zPk 165 j = true) j) (by decide +kernel)
set_option maxRecDepth 100000 in
theorem zcod_166 : zPcod 166 := zcodA 1 ((zpu (n := 0) zp0 zk_166_0) : ∀ j, j < 1 → (fun j => zPk 166 j = true) j) (by decide +kernel)
set_option maxRecDepth 100000 in
theorem zcod_167 : zPcod 167 := zcodA 2 ((zpu (n := 1) (zpu (n := 0) zp0 zk_167_0) zk_167_1) : ∀ j, j < 2 → (fun j => zPk 167 j = true) j) (by decide +kernel)
set_option maxRecDepth 100000 in
theorem zcod_168 : zPcod 168 := zcodA 1 ((zpu (n := 0) zp0 zk_168_0) : ∀ j, j < 1 → (fun j => zPk 168 j = true) j) (by decide +kernel)
set_option maxRecDepth 100000 in
theorem zcod_169 : zPcod 169 := zcodA 1 ((zpu (n := 0) zp0 zk_169_0) : ∀ j, j < 1 → (fun j => zPk 169 j = true) j) (by decide +kernel)
set_option maxRecDepth 100000 in
theorem zcod_170 : zPcod 170 := zcodA 1 ((zpu (n := 0) zp0 zk_170_0) : ∀ j, j < 1 → (fun j => zPk 170 j = true) j) (by decide +kernel)
set_option maxRecDepth 100000 in
theorem zcod_171 : zPcod 171 := zcodA 1 ((zpu (n := 0) zp0 zk_171_0) : ∀ j, j < 1 → (fun j => zPk 171 j = true) j) (by decide +kernel)
set_option maxRecDepth 100000 in
theorem zcod_172 : zPcod 172 := zcodA 1 ((zpu (n := 0) zp0 zk_172_0) : ∀ j, j < 1 → (fun j => zPk 172 j = true) j) (by decide +kernel)
set_option maxRecDepth 100000 in
theorem zcod_173 : zPcod 173 := zcodA 1 ((zpu (n := 0) zp0 zk_173_0) : ∀ j, j < 1 → (fun j => zPk 173 j = true) j) (by decide +kernel)
set_option maxRecDepth 100000 in
theorem zcod_174 : zPcod 174 := zcodA 1 ((zpu (n := 0) zp0 zk_174_0) : ∀ j, j < 1 → (fun j => zPk 174 j = true) j) (by decide +kernel)
set_option maxRecDepth 100000 in
theorem zcod_175 : zPcod 175 := zcodA 1 ((zpu (n := 0) zp0 zk_175_0) : ∀ j, j < 1 → (fun j => zPk 175 j = true) j) (by decide +kernel)
set_option maxRecDepth 100000 in
theorem zcod_176 : zPcod 176 := zcodA 1 ((zpu (n := 0) zp0 zk_176_0) : ∀ j, j < 1 → (fun j => zPk 176 j = true) j) (by decide +kernel)
set_option maxRecDepth 100000 in
theorem zcod_177 : zPcod 177 := zcodA 1 ((zpu (n := 0) zp0 zk_177_0) : ∀ j, j < 1 → (fun j => zPk 177 j = true) j) (by decide +kernel)
set_option maxRecDepth 100000 in
theorem zcod_178 : zPcod 178 := zcodA 3 ((zpu (n := 2) (zpu (n := 1) (zpu (n := 0) zp0 zk_178_0) zk_178_1) zk_178_2) : ∀ j, j < 3 → (fun j => zPk 178 j = true) j) (by decide +kernel)
set_option maxRecDepth 100000 in
theorem zcod_179 : zPcod 179 := zcodA 2 ((zpu (n := 1) (zpu (n := 0) zp0 zk_179_0) zk_179_1) : ∀ j, j < 2 → (fun j => zPk 179 j = true) j) (by decide +kernel)
set_option maxRecDepth 100000 in
theorem zcod_180 : zPcod 180 := zcodA 2 ((zpu (n := 1) (zpu (n := 0) zp0 zk_180_0) zk_180_1) : ∀ j, j < 2 → (fun j => zPk 180 j = true) j) (by decide +kernel)
set_option maxRecDepth 100000 in
theorem zcod_181 : zPcod 181 := zcodA 1 ((zpu (n := 0) zp0 zk_181_0) : ∀ j, j < 1 → (fun j => zPk 181 j = true) j) (by decide +kernel)
set_option maxRecDepth 100000 in
theorem zcod_182 : zPcod 182 := zcodA 1 ((zpu (n := 0) zp0 zk_182_0) : ∀ j, j < 1 → (fun j => zPk 182 j = true) j) (by decide +kernel)
set_option maxRecDepth 100000 in
theorem zcod_183 : zPcod 183 := zcodA 1 ((zpu (n := 0) zp0 zk_183_0) : ∀ j, j < 1 → (fun j => zPk 183 j = true) j) (by decide +kernel)
set_option maxRecDepth 100000 in
theorem zcod_184 : zPcod 184 := zcodA 2 ((zpu (n := 1) (zpu (n := 0) zp0 zk_184_0) zk_184_1) : ∀ j, j < 2 → (fun j => zPk 184 j = true) j) (by decide +kernel)
set_option maxRecDepth 100000 in
theorem zcod_185 : zPcod 185 := zcodA 1 ((zpu (n := 0) zp0 zk_185_0) : ∀ j, j < 1 → (fun j => zPk 185 j = true) j) (by decide +kernel)
set_option maxRecDepth 100000 in
theorem zcod_186 : zPcod 186 := zcodA 1 ((zpu (n := 0) zp0 zk_186_0) : ∀ j, j < 1 → (fun j => zPk 186 j = true) j) (by decide +kernel)
set_option maxRecDepth 100000 in
theorem zcod_187 : zPcod 187 := zcodA 1 ((zpu (n := 0) zp0 zk_187_0) : ∀ j, j < 1 → (fun j => zPk 187 j = true) j) (by decide +kernel)
set_option maxRecDepth 100000 in
theorem zcod_188 : zPcod 188 := zcodA 1 ((zpu (n := 0) zp0 zk_188_0) : ∀ j, j < 1 → (fun j => zPk 188 j = true) j) (by decide +kernel)
set_option maxRecDepth 100000 in
theorem zcod_189 : zPcod 189 := zcodA 3 ((zpu (n := 2) (zpu (n := 1) (zpu (n := 0) zp0 zk_189_0) zk_189_1) zk_189_2) : ∀ j, j < 3 → (fun j => zPk 189 j = true) j) (by decide +kernel)
set_option maxRecDepth 100000 in
theorem zcod_190 : zPcod 190 := zcodA 2 ((zpu (n := 1) (zpu (n := 0) zp0 zk_190_0) zk_190_1) : ∀ j, j < 2 → (fun j => zPk 190 j = true) j) (by decide +kernel)
set_option maxRecDepth 100000 in
theorem zcod_191 : zPcod 191 := zcodA 1 ((zpu (n := 0) zp0 zk_191_0) : ∀ j, j < 1 → (fun j => zPk 191 j = true) j) (by decide +kernel)
set_option maxRecDepth 100000 in
theorem zcod_192 : zPcod 192 := zcodA 3 ((zpu (n := 2) (zpu (n := 1) (zpu (n := 0) zp0 zk_192_0) zk_192_1) zk_192_2) : ∀ j, j < 3 → (fun j => zPk 192 j = true) j) (by decide +kernel)
set_option maxRecDepth 100000 in
theorem zcod_193 : zPcod 193 := zcodA 3 ((zpu (n := 2) (zpu (n := 1) (zpu (n := 0) zp0 zk_193_0) zk_193_1) zk_193_2) : ∀ j, j < 3 → (fun j => zPk 193 j = true) j) (by decide +kernel)
set_option maxRecDepth 100000 in
theorem zcod_194 : zPcod 194 := zcodA 1 ((zpu (n := 0) zp0 zk_194_0) : ∀ j, j < 1 → (fun j => zPk 194 j = true) j) (by decide +kernel)
set_option maxRecDepth 100000 in
theorem zcod_195 : zPcod 195 := zcodA 1 ((zpu (n := 0) zp0 zk_195_0) : ∀ j, j < 1 → (fun j => zPk 195 j = true) j) (by decide +kernel)
set_option maxRecDepth 100000 in
theorem zcod_196 : zPcod 196 := zcodA 1 ((zpu (n := 0) zp0 zk_196_0) : ∀ j, j < 1 → (fun j => zPk 196 j = true) j) (by decide +kernel)
set_option maxRecDepth 100000 in
theorem zcod_197 : zPcod 197 := zcodA 1 ((zpu (n := 0) zp0 zk_197_0) : ∀ j, j < 1 → (fun j => zPk 197 j = true) j) (by decide +kernel)
set_option maxRecDepth 100000 in
theorem zcod_198 : zPcod 198 := zcodA 1 ((zpu (n := 0) zp0 zk_198_0) : ∀ j, j < 1 → (fun j => zPk 198 j = true) j) (by decide +kernel)
set_option maxRecDepth 100000 in
theorem zcod_199 : zPcod 199 := zcodA 2 ((zpu (n := 1) (zpu (n := 0) zp0 zk_199_0) zk_199_1) : ∀ j, j < 2 → (fun j => zPk 199 j = true) j) (by decide +kernel)
set_option maxRecDepth 100000 in
theorem zcod_200 : zPcod 200 := zcodA 1 ((zpu (n := 0) zp0 zk_200_0) : ∀ j, j < 1 → (fun j => zPk 200 j = true) j) (by decide +kernel)
set_option maxRecDepth 100000 in
theorem zcod_201 : zPcod 201 := zcodA 1 ((zpu (n := 0) zp0 zk_201_0) : ∀ j, j < 1 → (fun j => zPk 201 j = true) j) (by decide +kernel)
set_option maxRecDepth 100000 in
theorem zcod_202 : zPcod 202 := zcodA 1 ((zpu (n := 0) zp0 zk_202_0) : ∀ j, j < 1 → (fun j => zPk 202 j = true) j) (by decide +kernel)
set_option maxRecDepth 100000 in
theorem zcod_203 : zPcod 203 := zcodA 1 ((zpu (n := 0) zp0 zk_203_0) : ∀ j, j < 1 → (fun j => zPk 203 j = true) j) (by decide +kernel)
set_option maxRecDepth 100000 in
theorem zcod_204 : zPcod 204 := zcodA 2 ((zpu (n := 1) (zpu (n := 0) zp0 zk_204_0) zk_204_1) : ∀ j, j < 2 → (fun j => zPk 204 j = true) j) (by decide +kernel)
set_option maxRecDepth 100000 in
theorem zcod_205 : zPcod 205 := zcodA 2 ((zpu (n := 1) (zpu (n := 0) zp0 zk_205_0) zk_205_1) : ∀ j, j < 2 → (fun j => zPk 205 j = true) j) (by decide +kernel)
set_option maxRecDepth 100000 in
theorem zcod_206 : zPcod 206 := zcodA 3 ((zpu (n := 2) (zpu (n := 1) (zpu (n := 0) zp0 zk_206_0) zk_206_1) zk_206_2) : ∀ j, j < 3 → (fun j => zPk 206 j = true) j) (by decide +kernel)
set_option maxRecDepth 100000 in
theorem zcod_207 : zPcod 207 := zcodA 2 ((zpu (n := 1) (zpu (n := 0) zp0 zk_207_0) zk_207_1) : ∀ j, j < 2 → (fun j => zPk 207 j = true) j) (by decide +kernel)
set_option maxRecDepth 100000 in
theorem zcod_208 : zPcod 208 := zcodA 2 ((zpu (n := 1) (zpu (n := 0) zp0 zk_208_0) zk_208_1) : ∀ j, j < 2 → (fun j => zPk 208 j = true) j) (by decide +kernel)
set_option maxRecDepth 100000 in
theorem zcod_209 : zPcod 209 := zcodA 4 ((zpu (n := 3) (zpu (n := 2) (zpu (n := 1) (zpu (n := 0) zp0 zk_209_0) zk_209_1) zk_209_2) zk_209_3) : ∀ j, j < 4 → (fun j => zPk 209 j = true) j) (by decide +kernel)
set_option maxRecDepth 100000 in
theorem zcod_210 : zPcod 210 := zcodA 2 ((zpu (n := 1) (zpu (n := 0) zp0 zk_210_0) zk_210_1) : ∀ j, j < 2 → (fun j => zPk 210 j = true) j) (by decide +kernel)
set_option maxRecDepth 100000 in
theorem zcod_211 : zPcod 211 := zcodA 2 ((zpu (n := 1) (zpu (n := 0) zp0 zk_211_0) zk_211_1) : ∀ j, j < 2 → (fun j => zPk 211 j = true) j) (by decide +kernel)
set_option maxRecDepth 100000 in
theorem zcod_212 : zPcod 212 := zcodA 1 ((zpu (n := 0) zp0 zk_212_0) : ∀ j, j < 1 → (fun j => zPk 212 j = true) j) (by decide +kernel)
set_option maxRecDepth 100000 in
theorem zcod_213 : zPcod 213 := zcodA 1 ((zpu (n := 0) zp0 zk_213_0) : ∀ j, j < 1 → (fun j => zPk 213 j = true) j) (by decide +kernel)
set_option maxRecDepth 100000 in
theorem zcod_214 : zPcod 214 := zcodA 3 ((zpu (n := 2) (zpu (n := 1) (zpu (n := 0) zp0 zk_214_0) zk_214_1) zk_214_2) : ∀ j, j < 3 → (fun j => zPk 214 j = true) j) (by decide +kernel)
set_option maxRecDepth 100000 in
theorem zcod_215 : zPcod 215 := zcodA 1 ((zpu (n := 0) zp0 zk_215_0) : ∀ j, j < 1 → (fun j => zPk 215 j = true) j) (by decide +kernel)
set_option maxRecDepth 100000 in
theorem zcod_216 : zPcod 216 := zcodA 2 ((zpu (n := 1) (zpu (n := 0) zp0 zk_216_0) zk_216_1) : ∀ j, j < 2 → (fun j => zPk 216 j = true) j) (by decide +kernel)
set_option maxRecDepth 100000 in
theorem zcod_217 : zPcod 217 := zcodA 1 ((zpu (n := 0) zp0 zk_217_0) : ∀ j, j < 1 → (fun j => zPk 217 j = true) j) (by decide +kernel)
set_option maxRecDepth 100000 in
theorem zcod_218 : zPcod 218 := zcodA 2 ((zpu (n := 1) (zpu (n := 0) zp0 zk_218_0) zk_218_1) : ∀ j, j < 2 → (fun j => zPk 218 j = true) j) (by decide +kernel)
set_option maxRecDepth 100000 in
theorem zcod_219 : zPcod 219 := zcodA 2 ((zpu (n := 1) (zpu (n := 0) zp0 zk_219_0) zk_219_1) : ∀ j, j < 2 → (fun j => zPk 219 j = true) j) (by decide +kernel)
set_option maxRecDepth 100000 in
theorem zcod_220 : zPcod 220 := zcodA 4 ((zpu (n := 3) (zpu (n := 2) (zpu (n := 1) (zpu (n := 0) zp0 zk_220_0) zk_220_1) zk_220_2) zk_220_3) : ∀ j, j < 4 → (fun j => zPk 220 j = true) j) (by decide +kernel)
set_option maxRecDepth 100000 in
theorem zcod_221 : zPcod 221 := zcodA 1 ((zpu (n := 0) zp0 zk_221_0) : ∀ j, j < 1 → (fun j => zPk 221 j = true) j) (by decide +kernel)
set_option maxRecDepth 100000 in
theorem zcod_222 : zPcod 222 := zcodA 2 ((zpu (n := 1) (zpu (n := 0) zp0 zk_222_0) zk_222_1) : ∀ j, j < 2 → (fun j => zPk 222 j = true) j) (by decide +kernel)
set_option maxRecDepth 100000 in
theorem zcod_223 : zPcod 223 := zcodA 2 ((zpu (n := 1) (zpu (n := 0) zp0 zk_223_0) zk_223_1) : ∀ j, j < 2 → (fun j => zPk 223 j = true) j) (by decide +kernel)
set_option maxRecDepth 100000 in
theorem zcod_224 : zPcod 224 := zcodA 2 ((zpu (n := 1) (zpu (n := 0) zp0 zk_224_0) zk_224_1) : ∀ j, j < 2 → (fun j => zPk 224 j = true) j) (by decide +kernel)
set_option maxRecDepth 100000 in
theorem zcod_225 : zPcod 225 := zcodA 2 ((zpu (n := 1) (zpu (n := 0) zp0 zk_225_0) zk_225_1) : ∀ j, j < 2 → (fun j => zPk 225 j = true) j) (by decide +kernel)
set_option maxRecDepth 100000 in
theorem zcod_226 : zPcod 226 := zcodA 1 ((zpu (n := 0) zp0 zk_226_0) : ∀ j, j < 1 → (fun j => zPk 226 j = true) j) (by decide +kernel)
set_option maxRecDepth 100000 in
theorem zcod_227 : zPcod 227 := zcodA 3 ((zpu (n := 2) (zpu (n := 1) (zpu (n := 0) zp0 zk_227_0) zk_227_1) zk_227_2) : ∀ j, j < 3 → (fun j => zPk 227 j = true) j) (by decide +kernel)
set_option maxRecDepth 100000 in
theorem zcod_228 : zPcod 228 := zcodA 1 ((zpu (n := 0) zp0 zk_228_0) : ∀ j, j < 1 → (fun j => zPk 228 j = true) j) (by decide +kernel)
set_option maxRecDepth 100000 in
theorem zcod_229 : zPcod 229 := zcodA 2 ((zpu (n := 1) (zpu (n := 0) zp0 zk_229_0) zk_229_1) : ∀ j, j < 2 → (fun j => zPk 229 j = true) j) (by decide +kernel)
set_option maxRecDepth 100000 in
theorem zcod_230 : zPcod 230 := zcodA 2 ((zpu (n := 1) (zpu (n := 0) zp0 zk_230_0) zk_230_1) : ∀ j, j < 2 → (fun j => zPk 230 j = true) j) (by decide +kernel)
set_option maxRecDepth 100000 in
theorem zcod_231 : zPcod 231 := zcodA 1 ((zpu (n := 0) zp0 zk_231_0) : ∀ j, j < 1 → (fun j => zPk 231 j = true) j) (by decide +kernel)
set_option maxRecDepth 100000 in
theorem zcod_232 : zPcod 232 := zcodA 1 ((zpu (n := 0) zp0 zk_232_0) : ∀ j, j < 1 → (fun j => zPk 232 j = true) j) (by decide +kernel)
set_option maxRecDepth 100000 in
theorem zcod_233 : zPcod 233 := zcodA 3 ((zpu (n := 2) (zpu (n := 1) (zpu (n := 0) zp0 zk_233_0) zk_233_1) zk_233_2) : ∀ j, j < 3 → (fun j => zPk 233 j = true) j) (by decide +kernel)
set_option maxRecDepth 100000 in
theorem zcod_234 : zPcod 234 := zcodA 2 ((zpu (n := 1) (zpu (n := 0) zp0 zk_234_0) zk_234_1) : ∀ j, j < 2 → (fun j => zPk 234 j = true) j) (by decide +kernel)
set_option maxRecDepth 100000 in
theorem zcod_235 : zPcod 235 := zcodA 1 ((zpu (n := 0) zp0 zk_235_0) : ∀ j, j < 1 → (fun j => zPk 235 j = true) j) (by decide +kernel)
set_option maxRecDepth 100000 in
theorem zcod_236 : zPcod 236 := zcodA 1 ((zpu (n := 0) zp0 zk_236_0) : ∀ j, j < 1 → (fun j => zPk 236 j = true) j) (by decide +kernel)
set_option maxRecDepth 100000 in
theorem zcod_237 : zPcod 237 := zcodA 3 ((zpu (n := 2) (zpu (n := 1) (zpu (n := 0) zp0 zk_237_0) zk_237_1) zk_237_2) : ∀ j, j < 3 → (fun j => zPk 237 j = true) j) (by decide +kernel)
set_option maxRecDepth 100000 in
theorem zcod_238 : zPcod 238 := zcodA 1 ((zpu (n := 0) zp0 zk_238_0) : ∀ j, j < 1 → (fun j => zPk 238 j = true) j) (by decide +kernel)
set_option maxRecDepth 100000 in
theorem zcod_239 : zPcod 239 := zcodA 1 ((zpu (n := 0) zp0 zk_239_0) : ∀ j, j < 1 → (fun j => zPk 239 j = true) j) (by decide +kernel)
set_option maxRecDepth 100000 in
theorem zcod_240 : zPcod 240 := zcodA 2 ((zpu (n := 1) (zpu (n := 0) zp0 zk_240_0) zk_240_1) : ∀ j, j < 2 → (fun j => zPk 240 j = true) j) (by decide +kernel)
set_option maxRecDepth 100000 in
theorem zcod_241 : zPcod 241 := zcodA 1 ((zpu (n := 0) zp0 zk_241_0) : ∀ j, j < 1 → (fun j => zPk 241 j = true) j) (by decide +kernel)
set_option maxRecDepth 100000 in
theorem zcod_242 : zPcod 242 := zcodA 3 ((zpu (n := 2) (zpu (n := 1) (zpu (n := 0) zp0 zk_242_0) zk_242_1) zk_242_2) : ∀ j, j < 3 → (fun j => zPk 242 j = true) j) (by decide +kernel)
set_option maxRecDepth 100000 in
theorem zcod_243 : zPcod 243 := zcodA 2 ((zpu (n := 1) (zpu (n := 0) zp0 zk_243_0) zk_243_1) : ∀ j, j < 2 → (fun j => zPk 243 j = true) j) (by decide +kernel)
set_option maxRecDepth 100000 in
theorem zcod_244 : zPcod 244 := zcodA 1 ((zpu (n := 0) zp0 zk_244_0) : ∀ j, j < 1 → (fun j => zPk 244 j = true) j) (by decide +kernel)
set_option maxRecDepth 100000 in
theorem zcod_245 : zPcod 245 := zcodA 3 ((zpu (n := 2) (zpu (n := 1) (zpu (n := 0) zp0 zk_245_0) zk_245_1) zk_245_2) : ∀ j, j < 3 → (fun j => zPk 245 j = true) j) (by decide +kernel)
set_option maxRecDepth 100000 in
theorem zcod_246 : zPcod 246 := zcodA 1 ((zpu (n := 0) zp0 zk_246_0) : ∀ j, j < 1 → (fun j => zPk 246 j = true) j) (by decide +kernel)
set_option maxRecDepth 100000 in
theorem zcod_247 : zPcod 247 := zcodA 1 ((zpu (n := 0) zp0 zk_247_0) : ∀ j, j < 1 → (fun j => zPk 247 j = true) j) (by decide +kernel)
set_option maxRecDepth 100000 in
theorem zcod_248 : zPcod 248 := zcodA 1 ((zpu (n := 0) zp0 zk_248_0) : ∀ j, j < 1 → (fun j => zPk 248 j = true) j) (by decide +kernel)
set_option maxRecDepth 100000 in
theorem zcod_249 : zPcod 249 := zcodA 1 ((zpu (n := 0) zp0 zk_249_0) : ∀ j, j < 1 → (fun j => zPk 249 j = true) j) (by decide +kernel)
set_option maxRecDepth 100000 in
theorem zcod_250 : zPcod 250 := zcodA 1 ((zpu (n := 0) zp0 zk_250_0) : ∀ j, j < 1 → (fun j => zPk 250 j = true) j) (by decide +kernel)
set_option maxRecDepth 100000 in
theorem zcod_251 : zPcod 251 := zcodA 1 ((zpu (n := 0) zp0 zk_251_0) : ∀ j, j < 1 → (fun j => zPk 251 j = true) j) (by decide +kernel)
set_option maxRecDepth 100000 in
theorem zcod_252 : zPcod 252 := zcodA 1 ((zpu (n := 0) zp0 zk_252_0) : ∀ j, j < 1 → (fun j => zPk 252 j = true) j) (by decide +kernel)
set_option maxRecDepth 100000 in
theorem zcod_253 : zPcod 253 := zcodA 2 ((zpu (n := 1) (zpu (n := 0) zp0 zk_253_0) zk_253_1) : ∀ j, j < 2 → (fun j => zPk 253 j = true) j) (by decide +kernel)
set_option maxRecDepth 100000 in
theorem zcod_254 : zPcod 254 := zcodA 2 ((zpu (n := 1) (zpu (n := 0) zp0 zk_254_0) zk_254_1) : ∀ j, j < 2 → (fun j => zPk 254 j = true) j) (by decide +kernel)
set_option maxRecDepth 100000 in
theorem zcod_255 : zPcod 255 := zcodA 20 ((zpu (n := 19) (zpu (n := 18) (zpu (n := 17) (zpu (n := 16) (zpu (n := 15) (zpu (n := 14) (zpu (n := 13) (zpu (n := 12) (zpu (n := 11) (zpu (n := 10) (zpu (n := 9) (zpu (n := 8) (zpu (n := 7) (zpu (n := 6) (zpu (n := 5) (zpu (n := 4) (zpu (n := 3) (zpu (n := 2) (zpu (n := 1) (zpu (n := 0) zp0 zk_255_0) zk_255_1) zk_255_2) zk_255_3) zk_255_4) zk_255_5) zk_255_6) zk_255_7) zk_255_8) zk_255_9) zk_255_10) zk_255_11) zk_255_12) zk_255_13) zk_255_14) zk_255_15) zk_255_16) zk_255_17) zk_255_18) zk_255_19) : ∀ j, j < 20 → (fun j => zPk 255 j = true) j) (by decide +kernel)
theorem zcb_16 : ∀ y, y < 16 → zPcod y := (zpu (n := 15) (zpu (n := 14) (zpu (n := 13) (zpu (n := 12) (zpu (n := 11) (zpu (n := 10) (zpu (n := 9) (zpu (n := 8) (zpu (n := 7) (zpu (n := 6) (zpu (n := 5) (zpu (n := 4) (zpu (n := 3) (zpu (n := 2) (zpu (n := 1) (zpu (n := 0) zp0 zcod_0) zcod_1) zcod_2) zcod_3) zcod_4) zcod_5) zcod_6) zcod_7) zcod_8) zcod_9) zcod_10) zcod_11) zcod_12) zcod_13) zcod_14) zcod_15)
theorem zcb_32 : ∀ y, y < 32 → zPcod y := (zpu (n := 31) (zpu (n := 30) (zpu (n := 29) (zpu (n := 28) (zpu (n := 27) (zpu (n := 26) (zpu (n := 25) (zpu (n := 24) (zpu (n := 23) (zpu (n := 22) (zpu (n := 21) (zpu (n := 20) (zpu (n := 19) (zpu (n := 18) (zpu (n := 17) (zpu (n := 16) zcb_16 zcod_16) zcod_17) zcod_18) zcod_19) zcod_20) zcod_21) zcod_22) zcod_23) zcod_24) zcod_25) zcod_26) zcod_27) zcod_28) zcod_29) zcod_30) zcod_31)
theorem zcb_48 : ∀ y, y < 48 → zPcod y := (zpu (n := 47) (zpu (n := 46) (zpu (n := 45) (zpu (n := 44) (zpu (n := 43) (zpu (n := 42) (zpu (n := 41) (zpu (n := 40) (zpu (n := 39) (zpu (n := 38) (zpu (n := 37) (zpu (n := 36) (zpu (n := 35) (zpu (n := 34) (zpu (n := 33) (zpu (n := 32) zcb_32 zcod_32) zcod_33) zcod_34) zcod_35) zcod_36) zcod_37) zcod_38) zcod_39) zcod_40) zcod_41) zcod_42) zcod_43) zcod_44) zcod_45) zcod_46) zcod_47)
theorem zcb_64 : ∀ y, y < 64 → zPcod y := (zpu (n := 63) (zpu (n := 62) (zpu (n := 61) (zpu (n := 60) (zpu (n := 59) (zpu (n := 58) (zpu (n := 57) (zpu (n := 56) (zpu (n := 55) (zpu (n := 54) (zpu (n := 53) (zpu (n := 52) (zpu (n := 51) (zpu (n := 50) (zpu (n := 49) (zpu (n := 48) zcb_48 zcod_48) zcod_49) zcod_50) zcod_51) zcod_52) zcod_53) zcod_54) zcod_55) zcod_56) zcod_57) zcod_58) zcod_59) zcod_60) zcod_61) zcod_62) zcod_63)
theorem zcb_80 : ∀ y, y < 80 → zPcod y := (zpu (n := 79) (zpu (n := 78) (zpu (n := 77) (zpu (n := 76) (zpu (n := 75) (zpu (n := 74) (zpu (n := 73) (zpu (n := 72) (zpu (n := 71) (zpu (n := 70) (zpu (n := 69) (zpu (n := 68) (zpu (n := 67) (zpu (n := 66) (zpu (n := 65) (zpu (n := 64) zcb_64 zcod_64) zcod_65) zcod_66) zcod_67) zcod_68) zcod_69) zcod_70) zcod_71) zcod_72) zcod_73) zcod_74) zcod_75) zcod_76) zcod_77) zcod_78) zcod_79)
theorem zcb_96 : ∀ y, y < 96 → zPcod y := (zpu (n := 95) (zpu (n := 94) (zpu (n := 93) (zpu (n := 92) (zpu (n := 91) (zpu (n := 90) (zpu (n := 89) (zpu (n := 88) (zpu (n := 87) (zpu (n := 86) (zpu (n := 85) (zpu (n := 84) (zpu (n := 83) (zpu (n := 82) (zpu (n := 81) (zpu (n := 80) zcb_80 zcod_80) zcod_81) zcod_82) zcod_83) zcod_84) zcod_85) zcod_86) zcod_87) zcod_88) zcod_89) zcod_90) zcod_91) zcod_92) zcod_93) zcod_94) zcod_95)
theorem zcb_112 : ∀ y, y < 112 → zPcod y := (zpu (n := 111) (zpu (n := 110) (zpu (n := 109) (zpu (n := 108) (zpu (n := 107) (zpu (n := 106) (zpu (n := 105) (zpu (n := 104) (zpu (n := 103) (zpu (n := 102) (zpu (n := 101) (zpu (n := 100) (zpu (n := 99) (zpu (n := 98) (zpu (n := 97) (zpu (n := 96) zcb_96 zcod_96) zcod_97) zcod_98) zcod_99) zcod_100) zcod_101) zcod_102) zcod_103) zcod_104) zcod_105) zcod_106) zcod_107) zcod_108) zcod_109) zcod_110) zcod_111)
theorem zcb_128 : ∀ y, y < 128 → zPcod y := (zpu (n := 127) (zpu (n := 126) (zpu (n := 125) (zpu (n := 124) (zpu (n := 123) (zpu (n := 122) (zpu (n := 121) (zpu (n := 120) (zpu (n := 119) (zpu (n := 118) (zpu (n := 117) (zpu (n := 116) (zpu (n := 115) (zpu (n := 114) (zpu (n := 113) (zpu (n := 112) zcb_112 zcod_112) zcod_113) zcod_114) zcod_115) zcod_116) zcod_117) zcod_118) zcod_119) zcod_120) zcod_121) zcod_122) zcod_123) zcod_124) zcod_125) zcod_126) zcod_127)
theorem zcb_144 : ∀ y, y < 144 → zPcod y := (zpu (n := 143) (zpu (n := 142) (zpu (n := 141) (zpu (n := 140) (zpu (n := 139) (zpu (n := 138) (zpu (n := 137) (zpu (n := 136) (zpu (n := 135) (zpu (n := 134) (zpu (n := 133) (zpu (n := 132) (zpu (n := 131) (zpu (n := 130) (zpu (n := 129) (zpu (n := 128) zcb_128 zcod_128) zcod_129) zcod_130) zcod_131) zcod_132) zcod_133) zcod_134) zcod_135) zcod_136) zcod_137) zcod_138) zcod_139) zcod_140) zcod_141) zcod_142) zcod_143)
theorem zcb_160 : ∀ y, y < 160 → zPcod y := (zpu (n := 159) (zpu (n := 158) (zpu (n := 157) (zpu (n := 156) (zpu (n := 155) (zpu (n := 154) (zpu (n := 153) (zpu (n := 152) (zpu (n := 151) (zpu (n := 150) (zpu (n := 149) (zpu (n := 148) (zpu (n := 147) (zpu (n := 146) (zpu (n := 145) (zpu (n := 144) zcb_144 zcod_144) zcod_145) zcod_146) zcod_147) zcod_148) zcod_149) zcod_150) zcod_151) zcod_152) zcod_153) zcod_154) zcod_155) zcod_156) zcod_157) zcod_158) zcod_159)
theorem zcb_176 : ∀ y, y < 176 → zPcod y := (zpu (n := 175) (zpu (n := 174) (zpu (n := 173) (zpu (n := 172) (zpu (n := 171) (zpu (n := 170) (zpu (n := 169) (zpu (n := 168) (zpu (n := 167) (zpu (n := 166) (zpu (n := 165) (zpu (n := 164) (zpu (n := 163) (zpu (n := 162) (zpu (n := 161) (zpu (n := 160) zcb_160 zcod_160) zcod_161) zcod_162) zcod_163) zcod_164) zcod_165) zcod_166) zcod_167) zcod_168) zcod_169) zcod_170) zcod_171) zcod_172) zcod_173) zcod_174) zcod_175)
theorem zcb_192 : ∀ y, y < 192 → zPcod y := (zpu (n := 191) (zpu (n := 190) (zpu (n := 189) (zpu (n := 188) (zpu (n := 187) (zpu (n := 186) (zpu (n := 185) (zpu (n := 184) (zpu (n := 183) (zpu (n := 182) (zpu (n := 181) (zpu (n := 180) (zpu (n := 179) (zpu (n := 178) (zpu (n := 177) (zpu (n := 176) zcb_176 zcod_176) zcod_177) zcod_178) zcod_179) zcod_180) zcod_181) zcod_182) zcod_183) zcod_184) zcod_185) zcod_186) zcod_187) zcod_188) zcod_189) zcod_190) zcod_191)
theorem zcb_208 : ∀ y, y < 208 → zPcod y := (zpu (n := 207) (zpu (n := 206) (zpu (n := 205) (zpu (n := 204) (zpu (n := 203) (zpu (n := 202) (zpu (n := 201) (zpu (n := 200) (zpu (n := 199) (zpu (n := 198) (zpu (n := 197) (zpu (n := 196) (zpu (n := 195) (zpu (n := 194) (zpu (n := 193) (zpu (n := 192) zcb_192 zcod_192) zcod_193) zcod_194) zcod_195) zcod_196) zcod_197) zcod_198) zcod_199) zcod_200) zcod_201) zcod_202) zcod_203) zcod_204) zcod_205) zcod_206) zcod_207)
theorem zcb_224 : ∀ y, y < 224 → zPcod y := (zpu (n := 223) (zpu (n := 222) (zpu (n := 221) (zpu (n := 220) (zpu (n := 219) (zpu (n := 218) (zpu (n := 217) (zpu (n := 216) (zpu (n := 215) (zpu (n := 214) (zpu (n := 213) (zpu (n := 212) (zpu (n := 211) (zpu (n := 210) (zpu (n := 209) (zpu (n := 208) zcb_208 zcod_208) zcod_209) zcod_210) zcod_211) zcod_212) zcod_213) zcod_214) zcod_215) zcod_216) zcod_217) zcod_218) zcod_219) zcod_220) zcod_221) zcod_222) zcod_223)
theorem zcb_240 : ∀ y, y < 240 → zPcod y := (zpu (n := 239) (zpu (n := 238) (zpu (n := 237) (zpu (n := 236) (zpu (n := 235) (zpu (n := 234) (zpu (n := 233) (zpu (n := 232) (zpu (n := 231) (zpu (n := 230) (zpu (n := 229) (zpu (n := 228) (zpu (n := 227) (zpu (n := 226) (zpu (n := 225) (zpu (n := 224) zcb_224 zcod_224) zcod_225) zcod_226) zcod_227) zcod_228) zcod_229) zcod_230) zcod_231) zcod_232) zcod_233) zcod_234) zcod_235) zcod_236) zcod_237) zcod_238) zcod_239)
theorem zcb_256 : ∀ y, y < 256 → zPcod y := (zpu (n := 255) (zpu (n := 254) (zpu (n := 253) (zpu (n := 252) (zpu (n := 251) (zpu (n := 250) (zpu (n := 249) (zpu (n := 248) (zpu (n := 247) (zpu (n := 246) (zpu (n := 245) (zpu (n := 244) (zpu (n := 243) (zpu (n := 242) (zpu (n := 241) (zpu (n := 240) zcb_240 zcod_240) zcod_241) zcod_242) zcod_243) zcod_244) zcod_245) zcod_246) zcod_247) zcod_248) zcod_249) zcod_250) zcod_251) zcod_252) zcod_253) zcod_254) zcod_255)
theorem zcodes : zCodes := zcb_256
