/-! THE PROGRAM: words (2), printed by wip/gen/pub70.py -/
theorem zmt (T : Nat → Nat) (f l j : Nat) (h1 : 1 ≤ l) (h5 : l ≤ 5) (hj : j < 15) (hl : ∀ i, i < l → 97 ≤ T (f + i) ∧ T (f + i) ≤ 122) : zmb T f (6 * j) l 0 = true ↔ zwn T l f 0 = zWK j := by
  rcases (show l = 1 ∨ l = 2 ∨ l = 3 ∨ l = 4 ∨ l = 5 by omega) with rfl | rfl | rfl | rfl | rfl
  · rcases (show j = 0 ∨ j = 1 ∨ j = 2 ∨ j = 3 ∨ j = 4 ∨ j = 5 ∨ j = 6 ∨ j = 7 ∨ j = 8 ∨ j = 9 ∨ j = 10 ∨ j = 11 ∨ j = 12 ∨ j = 13 ∨ j = 14 by omega) with rfl | rfl | rfl | rfl | rfl | rfl | rfl | rfl | rfl | rfl | rfl | rfl | rfl | rfl | rfl
    · exact zmt_1_0 T f (hl 0 (by decide))
    · exact zmt_1_1 T f (hl 0 (by decide))
    · exact zmt_1_2 T f (hl 0 (by decide))
    · exact zmt_1_3 T f (hl 0 (by decide))
    · exact zmt_1_4 T f (hl 0 (by decide))
    · exact zmt_1_5 T f (hl 0 (by decide))
    · exact zmt_1_6 T f (hl 0 (by decide))
    · exact zmt_1_7 T f (hl 0 (by decide))
    · exact zmt_1_8 T f (hl 0 (by decide))
    · exact zmt_1_9 T f (hl 0 (by decide))
    · exact zmt_1_10 T f (hl 0 (by decide))
    · exact zmt_1_11 T f (hl 0 (by decide))
    · exact zmt_1_12 T f (hl 0 (by decide))
    · exact zmt_1_13 T f (hl 0 (by decide))
    · exact zmt_1_14 T f (hl 0 (by decide))
  · rcases (show j = 0 ∨ j = 1 ∨ j = 2 ∨ j = 3 ∨ j = 4 ∨ j = 5 ∨ j = 6 ∨ j = 7 ∨ j = 8 ∨ j = 9 ∨ j = 10 ∨ j = 11 ∨ j = 12 ∨ j = 13 ∨ j = 14 by omega) with rfl | rfl | rfl | rfl | rfl | rfl | rfl | rfl | rfl | rfl | rfl | rfl | rfl | rfl | rfl
    · exact zmt_2_0 T f (hl 0 (by decide)) (hl 1 (by decide))
    · exact zmt_2_1 T f (hl 0 (by decide)) (hl 1 (by decide))
    · exact zmt_2_2 T f (hl 0 (by decide)) (hl 1 (by decide))
    · exact zmt_2_3 T f (hl 0 (by decide)) (hl 1 (by decide))
    · exact zmt_2_4 T f (hl 0 (by decide)) (hl 1 (by decide))
    · exact zmt_2_5 T f (hl 0 (by decide)) (hl 1 (by decide))
    · exact zmt_2_6 T f (hl 0 (by decide)) (hl 1 (by decide))
    · exact zmt_2_7 T f (hl 0 (by decide)) (hl 1 (by decide))
    · exact zmt_2_8 T f (hl 0 (by decide)) (hl 1 (by decide))
    · exact zmt_2_9 T f (hl 0 (by decide)) (hl 1 (by decide))
    · exact zmt_2_10 T f (hl 0 (by decide)) (hl 1 (by decide))
    · exact zmt_2_11 T f (hl 0 (by decide)) (hl 1 (by decide))
    · exact zmt_2_12 T f (hl 0 (by decide)) (hl 1 (by decide))
    · exact zmt_2_13 T f (hl 0 (by decide)) (hl 1 (by decide))
    · exact zmt_2_14 T f (hl 0 (by decide)) (hl 1 (by decide))
  · rcases (show j = 0 ∨ j = 1 ∨ j = 2 ∨ j = 3 ∨ j = 4 ∨ j = 5 ∨ j = 6 ∨ j = 7 ∨ j = 8 ∨ j = 9 ∨ j = 10 ∨ j = 11 ∨ j = 12 ∨ j = 13 ∨ j = 14 by omega) with rfl | rfl | rfl | rfl | rfl | rfl | rfl | rfl | rfl | rfl | rfl | rfl | rfl | rfl | rfl
    · exact zmt_3_0 T f (hl 0 (by decide)) (hl 1 (by decide)) (hl 2 (by decide))
    · exact zmt_3_1 T f (hl 0 (by decide)) (hl 1 (by decide)) (hl 2 (by decide))
    · exact zmt_3_2 T f (hl 0 (by decide)) (hl 1 (by decide)) (hl 2 (by decide))
    · exact zmt_3_3 T f (hl 0 (by decide)) (hl 1 (by decide)) (hl 2 (by decide))
    · exact zmt_3_4 T f (hl 0 (by decide)) (hl 1 (by decide)) (hl 2 (by decide))
    · exact zmt_3_5 T f (hl 0 (by decide)) (hl 1 (by decide)) (hl 2 (by decide))
    · exact zmt_3_6 T f (hl 0 (by decide)) (hl 1 (by decide)) (hl 2 (by decide))
    · exact zmt_3_7 T f (hl 0 (by decide)) (hl 1 (by decide)) (hl 2 (by decide))
    · exact zmt_3_8 T f (hl 0 (by decide)) (hl 1 (by decide)) (hl 2 (by decide))
    · exact zmt_3_9 T f (hl 0 (by decide)) (hl 1 (by decide)) (hl 2 (by decide))
    · exact zmt_3_10 T f (hl 0 (by decide)) (hl 1 (by decide)) (hl 2 (by decide))
    · exact zmt_3_11 T f (hl 0 (by decide)) (hl 1 (by decide)) (hl 2 (by decide))
    · exact zmt_3_12 T f (hl 0 (by decide)) (hl 1 (by decide)) (hl 2 (by decide))
    · exact zmt_3_13 T f (hl 0 (by decide)) (hl 1 (by decide)) (hl 2 (by decide))
    · exact zmt_3_14 T f (hl 0 (by decide)) (hl 1 (by decide)) (hl 2 (by decide))
  · rcases (show j = 0 ∨ j = 1 ∨ j = 2 ∨ j = 3 ∨ j = 4 ∨ j = 5 ∨ j = 6 ∨ j = 7 ∨ j = 8 ∨ j = 9 ∨ j = 10 ∨ j = 11 ∨ j = 12 ∨ j = 13 ∨ j = 14 by omega) with rfl | rfl | rfl | rfl | rfl | rfl | rfl | rfl | rfl | rfl | rfl | rfl | rfl | rfl | rfl
    · exact zmt_4_0 T f (hl 0 (by decide)) (hl 1 (by decide)) (hl 2 (by decide)) (hl 3 (by decide))
    · exact zmt_4_1 T f (hl 0 (by decide)) (hl 1 (by decide)) (hl 2 (by decide)) (hl 3 (by decide))
    · exact zmt_4_2 T f (hl 0 (by decide)) (hl 1 (by decide)) (hl 2 (by decide)) (hl 3 (by decide))
    · exact zmt_4_3 T f (hl 0 (by decide)) (hl 1 (by decide)) (hl 2 (by decide)) (hl 3 (by decide))
    · exact zmt_4_4 T f (hl 0 (by decide)) (hl 1 (by decide)) (hl 2 (by decide)) (hl 3 (by decide))
    · exact zmt_4_5 T f (hl 0 (by decide)) (hl 1 (by decide)) (hl 2 (by decide)) (hl 3 (by decide))
    · exact zmt_4_6 T f (hl 0 (by decide)) (hl 1 (by decide)) (hl 2 (by decide)) (hl 3 (by decide))
    · exact zmt_4_7 T f (hl 0 (by decide)) (hl 1 (by decide)) (hl 2 (by decide)) (hl 3 (by decide))
    · exact zmt_4_8 T f (hl 0 (by decide)) (hl 1 (by decide)) (hl 2 (by decide)) (hl 3 (by decide))
    · exact zmt_4_9 T f (hl 0 (by decide)) (hl 1 (by decide)) (hl 2 (by decide)) (hl 3 (by decide))
    · exact zmt_4_10 T f (hl 0 (by decide)) (hl 1 (by decide)) (hl 2 (by decide)) (hl 3 (by decide))
    · exact zmt_4_11 T f (hl 0 (by decide)) (hl 1 (by decide)) (hl 2 (by decide)) (hl 3 (by decide))
    · exact zmt_4_12 T f (hl 0 (by decide)) (hl 1 (by decide)) (hl 2 (by decide)) (hl 3 (by decide))
    · exact zmt_4_13 T f (hl 0 (by decide)) (hl 1 (by decide)) (hl 2 (by decide)) (hl 3 (by decide))
    · exact zmt_4_14 T f (hl 0 (by decide)) (hl 1 (by decide)) (hl 2 (by decide)) (hl 3 (by decide))
  · rcases (show j = 0 ∨ j = 1 ∨ j = 2 ∨ j = 3 ∨ j = 4 ∨ j = 5 ∨ j = 6 ∨ j = 7 ∨ j = 8 ∨ j = 9 ∨ j = 10 ∨ j = 11 ∨ j = 12 ∨ j = 13 ∨ j = 14 by omega) with rfl | rfl | rfl | rfl | rfl | rfl | rfl | rfl | rfl | rfl | rfl | rfl | rfl | rfl | rfl
    · exact zmt_5_0 T f (hl 0 (by decide)) (hl 1 (by decide)) (hl 2 (by decide)) (hl 3 (by decide)) (hl 4 (by decide))
    · exact zmt_5_1 T f (hl 0 (by decide)) (hl 1 (by decide)) (hl 2 (by decide)) (hl 3 (by decide)) (hl 4 (by decide))
    · exact zmt_5_2 T f (hl 0 (by decide)) (hl 1 (by decide)) (hl 2 (by decide)) (hl 3 (by decide)) (hl 4 (by decide))
    · exact zmt_5_3 T f (hl 0 (by decide)) (hl 1 (by decide)) (hl 2 (by decide)) (hl 3 (by decide)) (hl 4 (by decide))
    · exact zmt_5_4 T f (hl 0 (by decide)) (hl 1 (by decide)) (hl 2 (by decide)) (hl 3 (by decide)) (hl 4 (by decide))
    · exact zmt_5_5 T f (hl 0 (by decide)) (hl 1 (by decide)) (hl 2 (by decide)) (hl 3 (by decide)) (hl 4 (by decide))
    · exact zmt_5_6 T f (hl 0 (by decide)) (hl 1 (by decide)) (hl 2 (by decide)) (hl 3 (by decide)) (hl 4 (by decide))
    · exact zmt_5_7 T f (hl 0 (by decide)) (hl 1 (by decide)) (hl 2 (by decide)) (hl 3 (by decide)) (hl 4 (by decide))
    · exact zmt_5_8 T f (hl 0 (by decide)) (hl 1 (by decide)) (hl 2 (by decide)) (hl 3 (by decide)) (hl 4 (by decide))
    · exact zmt_5_9 T f (hl 0 (by decide)) (hl 1 (by decide)) (hl 2 (by decide)) (hl 3 (by decide)) (hl 4 (by decide))
    · exact zmt_5_10 T f (hl 0 (by decide)) (hl 1 (by decide)) (hl 2 (by decide)) (hl 3 (by decide)) (hl 4 (by decide))
    · exact zmt_5_11 T f (hl 0 (by decide)) (hl 1 (by decide)) (hl 2 (by decide)) (hl 3 (by decide)) (hl 4 (by decide))
    · exact zmt_5_12 T f (hl 0 (by decide)) (hl 1 (by decide)) (hl 2 (by decide)) (hl 3 (by decide)) (hl 4 (by decide))
    · exact zmt_5_13 T f (hl 0 (by decide)) (hl 1 (by decide)) (hl 2 (by decide)) (hl 3 (by decide)) (hl 4 (by decide))
    · exact zmt_5_14 T f (hl 0 (by decide)) (hl 1 (by decide)) (hl 2 (by decide)) (hl 3 (by decide)) (hl 4 (by decide))
theorem C20_l (d L p r2 r3 s4 : Nat) (C : zCt) {T : Nat → Nat} {n : Nat} {x : zLx} (h : zPC T n C x) (hk : zTk T n x) {col l : Nat} (hl : x.2.1 - x.1 = l) (hl5 : l ≤ 5) (hcol : col + 5 < 90) : ∀ (m i : Nat), i + m = l → zR (d + 1) 20 12 [.ref 190, .int (nI col), .int (nI l), .int (nI i)] [] (zZ L, zI C, zPd 184 (85 + 2 * p) r2 r3 s4) = some (some (.int (if zmb T x.1 col m i = true then 1 else 0)), (zZ L, zI C, zPd 184 (85 + 2 * p) r2 r3 s4)) := by
  have h120 := h.1.2.1
  have hn := hk.2.1
  have h1 := hk.1
  have h4 := h.2.2.1
  intro m
  induction m with
  | zero =>
    intro i hi
    obtain rfl : i = l := by omega
    have c1 : nI i ≤ nI i := Int32.le_refl _
    have ea : nI col + nI i = nI (col + i) := nI_add _ _
    have hzs : (zstr 0).getD (col + i) 0 = zS (col + i) := rfl
    have hb : zS (col + i) < 256 := by
      have : ∀ k, k < 90 → zS k < 256 := by decide +kernel
      exact this _ (by omega)
    rw [e20_12, if_pos c1]
    by_cases q : zS (col + i) = 32
    · have q2 : (nI (zS (col + i)) = 32) = True := eq_true (by rw [q]; rfl)
      rw [if_pos (show zmb T x.1 col 0 i = true from decide_eq_true q)]
      simp +decide (disch := omega) only [e20_46, e20_59, e20_64, ea, hzs, q2, zpre, ite_self, zs1, zs2, zs3, zI_eqb, and_self, not_true_eq_false, if_true, if_false, ite_true, ite_false, not_false_eq_true, zBP, zBZ, zisO, zisA, zlen, decide_true, decide_false, Bool.and_self, Bool.and_true, Bool.true_and, cond_true, cond_false, zBG, zBR, zBU, zBV, zinb_n, zix_n, zlA, zlB, zlM, zlN, zlX, zlI, nI_add, Nat.add_eq_zero_iff, false_and, and_false, and_true, true_and, true_or, or_true, false_or, or_false, zbool_i, zb0, zb1, zshp_0, zcs_eq, zcs_n, zcs_cs, zup_g, zup_n, zp2_sun, zp2_rock, zp2_tug, zp2_contract, zp2_window, zp2_code, zp2_rbody, zp2_rstock, zp2_tfree, zp2_thold, zp2_tknown, zp2_ccells, zsh2_sun, zsh2_rock, zsh2_body, zsh2_stock, zsh2_tug, zsh2_free, zsh2_hold, zsh2_known, zsh2_contract, zsh2_window, zsh2_code, zsh2_cells, zg_nsun0, zg_nsun1, zg_nsun2, zg_nrock0, zg_nrock1, zg_nrock2, zg_nrock3, zg_nrock4, zg_nrock5, zg_nrock6, zg_nrock7, zg_nrock8, zg_nrock9, zg_nrock10, zg_nrock11, zg_nrock12, zg_nrock13, zg_nrock14, zg_ntug0, zg_ntug1, zg_ntug2, zg_ntug3, zg_ntug4, zg_ntug5, zg_ntug6, zg_ntug7, zg_ntug8, zg_ntug9, zg_ntug10, zg_ntug11, zg_ntug12, zg_ntug13, zg_ntug14, zg_ntug15, zg_ntug17, zg_ntug18, zg_ntug19, zg_ntug20, zg_ntug21, zg_ntug22, zg_ncon0, zg_ncon1, zg_ncon2, zg_ncon3, zg_ncon4, zg_ncon5, zg_ncon6, zg_nwin0, zg_nwin1, zg_nwin2, zg_nwin3, zg_nwin4, zg_nwin5, zg_ncode0, zg_ncode1, zg_ncode3, zg_nrule, zg_nstock, zg_nhold, zg_nknown, zg_nord, zg_nrep, zg_ncla, zg_ntou, zg_ncel, zu_nsun0, zu_nsun1, zu_nsun2, zu_nrock0, zu_nrock1, zu_nrock2, zu_nrock3, zu_nrock4, zu_nrock5, zu_nrock6, zu_nrock7, zu_nrock8, zu_nrock9, zu_nrock10, zu_nrock11, zu_nrock12, zu_nrock13, zu_nrock14, zu_ntug0, zu_ntug1, zu_ntug2, zu_ntug3, zu_ntug4, zu_ntug5, zu_ntug6, zu_ntug7, zu_ntug8, zu_ntug9, zu_ntug10, zu_ntug11, zu_ntug12, zu_ntug13, zu_ntug14, zu_ntug15, zu_ntug17, zu_ntug18, zu_ntug19, zu_ntug20, zu_ntug21, zu_ntug22, zu_ncon0, zu_ncon1, zu_ncon2, zu_ncon3, zu_ncon4, zu_ncon5, zu_ncon6, zu_nwin0, zu_nwin1, zu_nwin2, zu_nwin3, zu_nwin4, zu_nwin5, zu_ncode3, zu_nrule, zu_nstock, zu_nhold, zu_nknown, zu_nord, zu_nrep, zu_ncla, zu_ntou, zu_ncel]
    · have q2 : ¬ nI (zS (col + i)) = 32 := fun w => q ((nI_eq (b := 32) (by omega) (by decide)).mp w)
      rw [if_neg (show ¬ zmb T x.1 col 0 i = true from fun w => q (of_decide_eq_true w))]
      simp +decide (disch := omega) only [e20_46, e20_63, e20_64, ea, hzs, q2, zpre, ite_self, zs1, zs2, zs3, zI_eqb, and_self, not_true_eq_false, if_true, if_false, ite_true, ite_false, not_false_eq_true, zBP, zBZ, zisO, zisA, zlen, decide_true, decide_false, Bool.and_self, Bool.and_true, Bool.true_and, cond_true, cond_false, zBG, zBR, zBU, zBV, zinb_n, zix_n, zlA, zlB, zlM, zlN, zlX, zlI, nI_add, Nat.add_eq_zero_iff, false_and, and_false, and_true, true_and, true_or, or_true, false_or, or_false, zbool_i, zb0, zb1, zshp_0, zcs_eq, zcs_n, zcs_cs, zup_g, zup_n, zp2_sun, zp2_rock, zp2_tug, zp2_contract, zp2_window, zp2_code, zp2_rbody, zp2_rstock, zp2_tfree, zp2_thold, zp2_tknown, zp2_ccells, zsh2_sun, zsh2_rock, zsh2_body, zsh2_stock, zsh2_tug, zsh2_free, zsh2_hold, zsh2_known, zsh2_contract, zsh2_window, zsh2_code, zsh2_cells, zg_nsun0, zg_nsun1, zg_nsun2, zg_nrock0, zg_nrock1, zg_nrock2, zg_nrock3, zg_nrock4, zg_nrock5, zg_nrock6, zg_nrock7, zg_nrock8, zg_nrock9, zg_nrock10, zg_nrock11, zg_nrock12, zg_nrock13, zg_nrock14, zg_ntug0, zg_ntug1, zg_ntug2, zg_ntug3, zg_ntug4, zg_ntug5, zg_ntug6, zg_ntug7, zg_ntug8, zg_ntug9, zg_ntug10, zg_ntug11, zg_ntug12, zg_ntug13, zg_ntug14, zg_ntug15, zg_ntug17, zg_ntug18, zg_ntug19, zg_ntug20, zg_ntug21, zg_ntug22, zg_ncon0, zg_ncon1, zg_ncon2, zg_ncon3, zg_ncon4, zg_ncon5, zg_ncon6, zg_nwin0, zg_nwin1, zg_nwin2, zg_nwin3, zg_nwin4, zg_nwin5, zg_ncode0, zg_ncode1, zg_ncode3, zg_nrule, zg_nstock, zg_nhold, zg_nknown, zg_nord, zg_nrep, zg_ncla, zg_ntou, zg_ncel, zu_nsun0, zu_nsun1, zu_nsun2, zu_nrock0, zu_nrock1, zu_nrock2, zu_nrock3, zu_nrock4, zu_nrock5, zu_nrock6, zu_nrock7, zu_nrock8, zu_nrock9, zu_nrock10, zu_nrock11, zu_nrock12, zu_nrock13, zu_nrock14, zu_ntug0, zu_ntug1, zu_ntug2, zu_ntug3, zu_ntug4, zu_ntug5, zu_ntug6, zu_ntug7, zu_ntug8, zu_ntug9, zu_ntug10, zu_ntug11, zu_ntug12, zu_ntug13, zu_ntug14, zu_ntug15, zu_ntug17, zu_ntug18, zu_ntug19, zu_ntug20, zu_ntug21, zu_ntug22, zu_ncon0, zu_ncon1, zu_ncon2, zu_ncon3, zu_ncon4, zu_ncon5, zu_ncon6, zu_nwin0, zu_nwin1, zu_nwin2, zu_nwin3, zu_nwin4, zu_nwin5, zu_ncode3, zu_nrule, zu_nstock, zu_nhold, zu_nknown, zu_nord, zu_nrep, zu_ncla, zu_ntou, zu_ncel]
  | succ m IH =>
    intro i hi
    have c1 : ¬ nI l ≤ nI i := nI_ge (by omega) (by omega)
    have ea : nI col + nI i = nI (col + i) := nI_add _ _
    have ex : nI x.1 + nI i = nI (x.1 + i) := nI_add _ _
    have t := C15_in d L p r2 r3 s4 C h.1 (show x.1 + i < n by omega)
    have hb := (h.1.2.2 (x.1 + i) (by omega)).2
    have hzs : (zstr 0).getD (col + i) 0 = zS (col + i) := rfl
    have hb2 : zS (col + i) < 256 := by
      have : ∀ k, k < 90 → zS k < 256 := by decide +kernel
      exact this _ (by omega)
    have IH2 := IH (i + 1) (by omega)
    rw [e20_12, if_neg c1]
    by_cases q : T (x.1 + i) = zS (col + i)
    · have q2 : (nI (T (x.1 + i)) = nI (zS (col + i))) = True := eq_true (by rw [q])
      rw [show zmb T x.1 col (m + 1) i = zmb T x.1 col m (i + 1) from if_pos q, ← IH2]
      simp +decide (disch := omega) only [e20_17, e20_27, e20_40, h4, ea, ex, t, hzs, q2, zpre, ite_self, zs1, zs2, zs3, zI_eqb, and_self, not_true_eq_false, if_true, if_false, ite_true, ite_false, not_false_eq_true, zBP, zBZ, zisO, zisA, zlen, decide_true, decide_false, Bool.and_self, Bool.and_true, Bool.true_and, cond_true, cond_false, zBG, zBR, zBU, zBV, zinb_n, zix_n, zlA, zlB, zlM, zlN, zlX, zlI, nI_add, Nat.add_eq_zero_iff, false_and, and_false, and_true, true_and, true_or, or_true, false_or, or_false, zbool_i, zb0, zb1, zshp_0, zcs_eq, zcs_n, zcs_cs, zup_g, zup_n, zp2_sun, zp2_rock, zp2_tug, zp2_contract, zp2_window, zp2_code, zp2_rbody, zp2_rstock, zp2_tfree, zp2_thold, zp2_tknown, zp2_ccells, zsh2_sun, zsh2_rock, zsh2_body, zsh2_stock, zsh2_tug, zsh2_free, zsh2_hold, zsh2_known, zsh2_contract, zsh2_window, zsh2_code, zsh2_cells, zg_nsun0, zg_nsun1, zg_nsun2, zg_nrock0, zg_nrock1, zg_nrock2, zg_nrock3, zg_nrock4, zg_nrock5, zg_nrock6, zg_nrock7, zg_nrock8, zg_nrock9, zg_nrock10, zg_nrock11, zg_nrock12, zg_nrock13, zg_nrock14, zg_ntug0, zg_ntug1, zg_ntug2, zg_ntug3, zg_ntug4, zg_ntug5, zg_ntug6, zg_ntug7, zg_ntug8, zg_ntug9, zg_ntug10, zg_ntug11, zg_ntug12, zg_ntug13, zg_ntug14, zg_ntug15, zg_ntug17, zg_ntug18, zg_ntug19, zg_ntug20, zg_ntug21, zg_ntug22, zg_ncon0, zg_ncon1, zg_ncon2, zg_ncon3, zg_ncon4, zg_ncon5, zg_ncon6, zg_nwin0, zg_nwin1, zg_nwin2, zg_nwin3, zg_nwin4, zg_nwin5, zg_ncode0, zg_ncode1, zg_ncode3, zg_nrule, zg_nstock, zg_nhold, zg_nknown, zg_nord, zg_nrep, zg_ncla, zg_ntou, zg_ncel, zu_nsun0, zu_nsun1, zu_nsun2, zu_nrock0, zu_nrock1, zu_nrock2, zu_nrock3, zu_nrock4, zu_nrock5, zu_nrock6, zu_nrock7, zu_nrock8, zu_nrock9, zu_nrock10, zu_nrock11, zu_nrock12, zu_nrock13, zu_nrock14, zu_ntug0, zu_ntug1, zu_ntug2, zu_ntug3, zu_ntug4, zu_ntug5, zu_ntug6, zu_ntug7, zu_ntug8, zu_ntug9, zu_ntug10, zu_ntug11, zu_ntug12, zu_ntug13, zu_ntug14, zu_ntug15, zu_ntug17, zu_ntug18, zu_ntug19, zu_ntug20, zu_ntug21, zu_ntug22, zu_ncon0, zu_ncon1, zu_ncon2, zu_ncon3, zu_ncon4, zu_ncon5, zu_ncon6, zu_nwin0, zu_nwin1, zu_nwin2, zu_nwin3, zu_nwin4, zu_nwin5, zu_ncode3, zu_nrule, zu_nstock, zu_nhold, zu_nknown, zu_nord, zu_nrep, zu_ncla, zu_ntou, zu_ncel]
    · have q2 : ¬ nI (T (x.1 + i)) = nI (zS (col + i)) := fun w => q ((nI_eq (by omega) (by omega)).mp w)
      rw [show zmb T x.1 col (m + 1) i = false from if_neg q, if_neg Bool.false_ne_true]
      simp +decide (disch := omega) only [e20_17, e20_27, e20_38, h4, ea, ex, t, hzs, q2, zpre, ite_self, zs1, zs2, zs3, zI_eqb, and_self, not_true_eq_false, if_true, if_false, ite_true, ite_false, not_false_eq_true, zBP, zBZ, zisO, zisA, zlen, decide_true, decide_false, Bool.and_self, Bool.and_true, Bool.true_and, cond_true, cond_false, zBG, zBR, zBU, zBV, zinb_n, zix_n, zlA, zlB, zlM, zlN, zlX, zlI, nI_add, Nat.add_eq_zero_iff, false_and, and_false, and_true, true_and, true_or, or_true, false_or, or_false, zbool_i, zb0, zb1, zshp_0, zcs_eq, zcs_n, zcs_cs, zup_g, zup_n, zp2_sun, zp2_rock, zp2_tug, zp2_contract, zp2_window, zp2_code, zp2_rbody, zp2_rstock, zp2_tfree, zp2_thold, zp2_tknown, zp2_ccells, zsh2_sun, zsh2_rock, zsh2_body, zsh2_stock, zsh2_tug, zsh2_free, zsh2_hold, zsh2_known, zsh2_contract, zsh2_window, zsh2_code, zsh2_cells, zg_nsun0, zg_nsun1, zg_nsun2, zg_nrock0, zg_nrock1, zg_nrock2, zg_nrock3, zg_nrock4, zg_nrock5, zg_nrock6, zg_nrock7, zg_nrock8, zg_nrock9, zg_nrock10, zg_nrock11, zg_nrock12, zg_nrock13, zg_nrock14, zg_ntug0, zg_ntug1, zg_ntug2, zg_ntug3, zg_ntug4, zg_ntug5, zg_ntug6, zg_ntug7, zg_ntug8, zg_ntug9, zg_ntug10, zg_ntug11, zg_ntug12, zg_ntug13, zg_ntug14, zg_ntug15, zg_ntug17, zg_ntug18, zg_ntug19, zg_ntug20, zg_ntug21, zg_ntug22, zg_ncon0, zg_ncon1, zg_ncon2, zg_ncon3, zg_ncon4, zg_ncon5, zg_ncon6, zg_nwin0, zg_nwin1, zg_nwin2, zg_nwin3, zg_nwin4, zg_nwin5, zg_ncode0, zg_ncode1, zg_ncode3, zg_nrule, zg_nstock, zg_nhold, zg_nknown, zg_nord, zg_nrep, zg_ncla, zg_ntou, zg_ncel, zu_nsun0, zu_nsun1, zu_nsun2, zu_nrock0, zu_nrock1, zu_nrock2, zu_nrock3, zu_nrock4, zu_nrock5, zu_nrock6, zu_nrock7, zu_nrock8, zu_nrock9, zu_nrock10, zu_nrock11, zu_nrock12, zu_nrock13, zu_nrock14, zu_ntug0, zu_ntug1, zu_ntug2, zu_ntug3, zu_ntug4, zu_ntug5, zu_ntug6, zu_ntug7, zu_ntug8, zu_ntug9, zu_ntug10, zu_ntug11, zu_ntug12, zu_ntug13, zu_ntug14, zu_ntug15, zu_ntug17, zu_ntug18, zu_ntug19, zu_ntug20, zu_ntug21, zu_ntug22, zu_ncon0, zu_ncon1, zu_ncon2, zu_ncon3, zu_ncon4, zu_ncon5, zu_ncon6, zu_nwin0, zu_nwin1, zu_nwin2, zu_nwin3, zu_nwin4, zu_nwin5, zu_ncode3, zu_nrule, zu_nstock, zu_nhold, zu_nknown, zu_nord, zu_nrep, zu_ncla, zu_ntou, zu_ncel]
theorem C19_l (d L p r2 r3 s4 : Nat) (C : zCt) {T : Nat → Nat} {n : Nat} {x : zLx} (h : zPC T n C x) (hk : zTk T n x) (hkind : x.2.2 = 1) (hl5 : x.2.1 - x.1 ≤ 5) : ∀ (m j : Nat), j + m = 15 → zR (d + 2) 19 26 [.ref 190, .int (nI j)] [] (zZ L, zI C, zPd 184 (85 + 2 * p) r2 r3 s4) = some (some (.int (zfj (zwn T (x.2.1 - x.1) x.1 0) m j)), (zZ L, zI C, zPd 184 (85 + 2 * p) r2 r3 s4)) := by
  have h120 := h.1.2.1
  have hlt := hk.2.2.2.2.1 (by rw [hkind]; decide)
  have h4 := h.2.2.1
  have h5 := h.2.2.2
  have es : nI x.2.1 - nI x.1 = nI (x.2.1 - x.1) := nI_sub (by omega)
  intro m
  induction m with
  | zero =>
    intro j hj
    obtain rfl : j = 15 := by omega
    rw [e19_26, if_pos (by decide), e19_51]
    rfl
  | succ m IH =>
    intro j hj
    have c1 : ¬ (15 : Int32) ≤ nI j := nI_ge (b := 15) (by omega) (by decide)
    have em : nI j * 6 = nI (6 * j) := by rw [Nat.mul_comm]; exact nI_mul j 6
    have t := C20_l d L p r2 r3 s4 C h hk (col := 6 * j) rfl hl5 (by omega) (x.2.1 - x.1) 0 (by omega)
    have IH2 := IH (j + 1) (by omega)
    have hm := zmt T x.1 (x.2.1 - x.1) j (by omega) hl5 (by omega) (fun i hi => zsrt_1 (hk.2.2.2.2.2.2.1 hkind _ (by omega) (by omega)))
    have t2 : zR (d + 1) 20 0 [.ref 190, .int (nI (6 * j)), zmk, zmk] [] (zZ L, zI C, zPd 184 (85 + 2 * p) r2 r3 s4) = some (some (.int (if zmb T x.1 (6 * j) (x.2.1 - x.1) 0 = true then 1 else 0)), (zZ L, zI C, zPd 184 (85 + 2 * p) r2 r3 s4)) := by
      rw [← t]
      simp +decide (disch := omega) only [e20_0, h4, h5, es, zn0, zpre, ite_self, zs1, zs2, zs3, zI_eqb, and_self, not_true_eq_false, if_true, if_false, ite_true, ite_false, not_false_eq_true, zBP, zBZ, zisO, zisA, zlen, decide_true, decide_false, Bool.and_self, Bool.and_true, Bool.true_and, cond_true, cond_false, zBG, zBR, zBU, zBV, zinb_n, zix_n, zlA, zlB, zlM, zlN, zlX, zlI, nI_add, Nat.add_eq_zero_iff, false_and, and_false, and_true, true_and, true_or, or_true, false_or, or_false, zbool_i, zb0, zb1, zshp_0, zcs_eq, zcs_n, zcs_cs, zup_g, zup_n, zp2_sun, zp2_rock, zp2_tug, zp2_contract, zp2_window, zp2_code, zp2_rbody, zp2_rstock, zp2_tfree, zp2_thold, zp2_tknown, zp2_ccells, zsh2_sun, zsh2_rock, zsh2_body, zsh2_stock, zsh2_tug, zsh2_free, zsh2_hold, zsh2_known, zsh2_contract, zsh2_window, zsh2_code, zsh2_cells, zg_nsun0, zg_nsun1, zg_nsun2, zg_nrock0, zg_nrock1, zg_nrock2, zg_nrock3, zg_nrock4, zg_nrock5, zg_nrock6, zg_nrock7, zg_nrock8, zg_nrock9, zg_nrock10, zg_nrock11, zg_nrock12, zg_nrock13, zg_nrock14, zg_ntug0, zg_ntug1, zg_ntug2, zg_ntug3, zg_ntug4, zg_ntug5, zg_ntug6, zg_ntug7, zg_ntug8, zg_ntug9, zg_ntug10, zg_ntug11, zg_ntug12, zg_ntug13, zg_ntug14, zg_ntug15, zg_ntug17, zg_ntug18, zg_ntug19, zg_ntug20, zg_ntug21, zg_ntug22, zg_ncon0, zg_ncon1, zg_ncon2, zg_ncon3, zg_ncon4, zg_ncon5, zg_ncon6, zg_nwin0, zg_nwin1, zg_nwin2, zg_nwin3, zg_nwin4, zg_nwin5, zg_ncode0, zg_ncode1, zg_ncode3, zg_nrule, zg_nstock, zg_nhold, zg_nknown, zg_nord, zg_nrep, zg_ncla, zg_ntou, zg_ncel, zu_nsun0, zu_nsun1, zu_nsun2, zu_nrock0, zu_nrock1, zu_nrock2, zu_nrock3, zu_nrock4, zu_nrock5, zu_nrock6, zu_nrock7, zu_nrock8, zu_nrock9, zu_nrock10, zu_nrock11, zu_nrock12, zu_nrock13, zu_nrock14, zu_ntug0, zu_ntug1, zu_ntug2, zu_ntug3, zu_ntug4, zu_ntug5, zu_ntug6, zu_ntug7, zu_ntug8, zu_ntug9, zu_ntug10, zu_ntug11, zu_ntug12, zu_ntug13, zu_ntug14, zu_ntug15, zu_ntug17, zu_ntug18, zu_ntug19, zu_ntug20, zu_ntug21, zu_ntug22, zu_ncon0, zu_ncon1, zu_ncon2, zu_ncon3, zu_ncon4, zu_ncon5, zu_ncon6, zu_nwin0, zu_nwin1, zu_nwin2, zu_nwin3, zu_nwin4, zu_nwin5, zu_ncode3, zu_nrule, zu_nstock, zu_nhold, zu_nknown, zu_nord, zu_nrep, zu_ncla, zu_ntou, zu_ncel]
    rw [e19_26, if_neg c1]
    by_cases q : zwn T (x.2.1 - x.1) x.1 0 = zWK j
    · rw [if_pos (hm.mpr q)] at t2
      rw [show zfj (zwn T (x.2.1 - x.1) x.1 0) (m + 1) j = nI j from if_pos q]
      simp +decide (disch := omega) only [e19_32, e19_40, e19_43, em, t2, zpre, ite_self, zs1, zs2, zs3, zI_eqb, and_self, not_true_eq_false, if_true, if_false, ite_true, ite_false, not_false_eq_true, zBP, zBZ, zisO, zisA, zlen, decide_true, decide_false, Bool.and_self, Bool.and_true, Bool.true_and, cond_true, cond_false, zBG, zBR, zBU, zBV, zinb_n, zix_n, zlA, zlB, zlM, zlN, zlX, zlI, nI_add, Nat.add_eq_zero_iff, false_and, and_false, and_true, true_and, true_or, or_true, false_or, or_false, zbool_i, zb0, zb1, zshp_0, zcs_eq, zcs_n, zcs_cs, zup_g, zup_n, zp2_sun, zp2_rock, zp2_tug, zp2_contract, zp2_window, zp2_code, zp2_rbody, zp2_rstock, zp2_tfree, zp2_thold, zp2_tknown, zp2_ccells, zsh2_sun, zsh2_rock, zsh2_body, zsh2_stock, zsh2_tug, zsh2_free, zsh2_hold, zsh2_known, zsh2_contract, zsh2_window, zsh2_code, zsh2_cells, zg_nsun0, zg_nsun1, zg_nsun2, zg_nrock0, zg_nrock1, zg_nrock2, zg_nrock3, zg_nrock4, zg_nrock5, zg_nrock6, zg_nrock7, zg_nrock8, zg_nrock9, zg_nrock10, zg_nrock11, zg_nrock12, zg_nrock13, zg_nrock14, zg_ntug0, zg_ntug1, zg_ntug2, zg_ntug3, zg_ntug4, zg_ntug5, zg_ntug6, zg_ntug7, zg_ntug8, zg_ntug9, zg_ntug10, zg_ntug11, zg_ntug12, zg_ntug13, zg_ntug14, zg_ntug15, zg_ntug17, zg_ntug18, zg_ntug19, zg_ntug20, zg_ntug21, zg_ntug22, zg_ncon0, zg_ncon1, zg_ncon2, zg_ncon3, zg_ncon4, zg_ncon5, zg_ncon6, zg_nwin0, zg_nwin1, zg_nwin2, zg_nwin3, zg_nwin4, zg_nwin5, zg_ncode0, zg_ncode1, zg_ncode3, zg_nrule, zg_nstock, zg_nhold, zg_nknown, zg_nord, zg_nrep, zg_ncla, zg_ntou, zg_ncel, zu_nsun0, zu_nsun1, zu_nsun2, zu_nrock0, zu_nrock1, zu_nrock2, zu_nrock3, zu_nrock4, zu_nrock5, zu_nrock6, zu_nrock7, zu_nrock8, zu_nrock9, zu_nrock10, zu_nrock11, zu_nrock12, zu_nrock13, zu_nrock14, zu_ntug0, zu_ntug1, zu_ntug2, zu_ntug3, zu_ntug4, zu_ntug5, zu_ntug6, zu_ntug7, zu_ntug8, zu_ntug9, zu_ntug10, zu_ntug11, zu_ntug12, zu_ntug13, zu_ntug14, zu_ntug15, zu_ntug17, zu_ntug18, zu_ntug19, zu_ntug20, zu_ntug21, zu_ntug22, zu_ncon0, zu_ncon1, zu_ncon2, zu_ncon3, zu_ncon4, zu_ncon5, zu_ncon6, zu_nwin0, zu_nwin1, zu_nwin2, zu_nwin3, zu_nwin4, zu_nwin5, zu_ncode3, zu_nrule, zu_nstock, zu_nhold, zu_nknown, zu_nord, zu_nrep, zu_ncla, zu_ntou, zu_ncel]
    · rw [if_neg (fun w => q (hm.mp w))] at t2
      rw [show zfj (zwn T (x.2.1 - x.1) x.1 0) (m + 1) j = zfj (zwn T (x.2.1 - x.1) x.1 0) m (j + 1) from if_neg q, ← IH2]
      simp +decide (disch := omega) only [e19_32, e19_40, e19_45, em, t2, zpre, ite_self, zs1, zs2, zs3, zI_eqb, and_self, not_true_eq_false, if_true, if_false, ite_true, ite_false, not_false_eq_true, zBP, zBZ, zisO, zisA, zlen, decide_true, decide_false, Bool.and_self, Bool.and_true, Bool.true_and, cond_true, cond_false, zBG, zBR, zBU, zBV, zinb_n, zix_n, zlA, zlB, zlM, zlN, zlX, zlI, nI_add, Nat.add_eq_zero_iff, false_and, and_false, and_true, true_and, true_or, or_true, false_or, or_false, zbool_i, zb0, zb1, zshp_0, zcs_eq, zcs_n, zcs_cs, zup_g, zup_n, zp2_sun, zp2_rock, zp2_tug, zp2_contract, zp2_window, zp2_code, zp2_rbody, zp2_rstock, zp2_tfree, zp2_thold, zp2_tknown, zp2_ccells, zsh2_sun, zsh2_rock, zsh2_body, zsh2_stock, zsh2_tug, zsh2_free, zsh2_hold, zsh2_known, zsh2_contract, zsh2_window, zsh2_code, zsh2_cells, zg_nsun0, zg_nsun1, zg_nsun2, zg_nrock0, zg_nrock1, zg_nrock2, zg_nrock3, zg_nrock4, zg_nrock5, zg_nrock6, zg_nrock7, zg_nrock8, zg_nrock9, zg_nrock10, zg_nrock11, zg_nrock12, zg_nrock13, zg_nrock14, zg_ntug0, zg_ntug1, zg_ntug2, zg_ntug3, zg_ntug4, zg_ntug5, zg_ntug6, zg_ntug7, zg_ntug8, zg_ntug9, zg_ntug10, zg_ntug11, zg_ntug12, zg_ntug13, zg_ntug14, zg_ntug15, zg_ntug17, zg_ntug18, zg_ntug19, zg_ntug20, zg_ntug21, zg_ntug22, zg_ncon0, zg_ncon1, zg_ncon2, zg_ncon3, zg_ncon4, zg_ncon5, zg_ncon6, zg_nwin0, zg_nwin1, zg_nwin2, zg_nwin3, zg_nwin4, zg_nwin5, zg_ncode0, zg_ncode1, zg_ncode3, zg_nrule, zg_nstock, zg_nhold, zg_nknown, zg_nord, zg_nrep, zg_ncla, zg_ntou, zg_ncel, zu_nsun0, zu_nsun1, zu_nsun2, zu_nrock0, zu_nrock1, zu_nrock2, zu_nrock3, zu_nrock4, zu_nrock5, zu_nrock6, zu_nrock7, zu_nrock8, zu_nrock9, zu_nrock10, zu_nrock11, zu_nrock12, zu_nrock13, zu_nrock14, zu_ntug0, zu_ntug1, zu_ntug2, zu_ntug3, zu_ntug4, zu_ntug5, zu_ntug6, zu_ntug7, zu_ntug8, zu_ntug9, zu_ntug10, zu_ntug11, zu_ntug12, zu_ntug13, zu_ntug14, zu_ntug15, zu_ntug17, zu_ntug18, zu_ntug19, zu_ntug20, zu_ntug21, zu_ntug22, zu_ncon0, zu_ncon1, zu_ncon2, zu_ncon3, zu_ncon4, zu_ncon5, zu_ncon6, zu_nwin0, zu_nwin1, zu_nwin2, zu_nwin3, zu_nwin4, zu_nwin5, zu_ncode3, zu_nrule, zu_nstock, zu_nhold, zu_nknown, zu_nord, zu_nrep, zu_ncla, zu_ntou, zu_ncel]
theorem C19 (d L p r2 r3 s4 : Nat) (C : zCt) {T : Nat → Nat} {n : Nat} {x : zLx} (h : zPC T n C x) (hk : zTk T n x) (v : Value) : zR (d + 2) 19 0 [.ref 190, v] [] (zZ L, zI C, zPd 184 (85 + 2 * p) r2 r3 s4) = some (some (.int (zfj (zV T x) 15 0)), (zZ L, zI C, zPd 184 (85 + 2 * p) r2 r3 s4)) := by
  have h4 := h.2.2.1
  have h5 := h.2.2.2
  have h120 := h.1.2.1
  have hn := hk.2.1
  have h1 := hk.1
  have hk5 := hk.2.2.1
  have es : nI x.2.1 - nI x.1 = nI (x.2.1 - x.1) := nI_sub (by omega)
  have hz0 : zfj 0 15 0 = -1 := by decide
  unfold zV
  by_cases e : x.2.2 = 1
  · have h3 : C 390 0 3 = 1 := by have := h.2.1; rw [e] at this; exact this
    by_cases e5 : x.2.1 - x.1 ≤ 5
    · have c1 : nI (x.2.1 - x.1) < 6 := nI_lt (b := 6) (by omega) (by decide)
      rw [if_pos ⟨e, e5⟩, ← C19_l d L p r2 r3 s4 C h hk e e5 15 0 rfl]
      simp +decide (disch := omega) only [e19_0, e19_8, e19_24, h3, h4, h5, es, c1, zn0, zpre, ite_self, zs1, zs2, zs3, zI_eqb, and_self, not_true_eq_false, if_true, if_false, ite_true, ite_false, not_false_eq_true, zBP, zBZ, zisO, zisA, zlen, decide_true, decide_false, Bool.and_self, Bool.and_true, Bool.true_and, cond_true, cond_false, zBG, zBR, zBU, zBV, zinb_n, zix_n, zlA, zlB, zlM, zlN, zlX, zlI, nI_add, Nat.add_eq_zero_iff, false_and, and_false, and_true, true_and, true_or, or_true, false_or, or_false, zbool_i, zb0, zb1, zshp_0, zcs_eq, zcs_n, zcs_cs, zup_g, zup_n, zp2_sun, zp2_rock, zp2_tug, zp2_contract, zp2_window, zp2_code, zp2_rbody, zp2_rstock, zp2_tfree, zp2_thold, zp2_tknown, zp2_ccells, zsh2_sun, zsh2_rock, zsh2_body, zsh2_stock, zsh2_tug, zsh2_free, zsh2_hold, zsh2_known, zsh2_contract, zsh2_window, zsh2_code, zsh2_cells, zg_nsun0, zg_nsun1, zg_nsun2, zg_nrock0, zg_nrock1, zg_nrock2, zg_nrock3, zg_nrock4, zg_nrock5, zg_nrock6, zg_nrock7, zg_nrock8, zg_nrock9, zg_nrock10, zg_nrock11, zg_nrock12, zg_nrock13, zg_nrock14, zg_ntug0, zg_ntug1, zg_ntug2, zg_ntug3, zg_ntug4, zg_ntug5, zg_ntug6, zg_ntug7, zg_ntug8, zg_ntug9, zg_ntug10, zg_ntug11, zg_ntug12, zg_ntug13, zg_ntug14, zg_ntug15, zg_ntug17, zg_ntug18, zg_ntug19, zg_ntug20, zg_ntug21, zg_ntug22, zg_ncon0, zg_ncon1, zg_ncon2, zg_ncon3, zg_ncon4, zg_ncon5, zg_ncon6, zg_nwin0, zg_nwin1, zg_nwin2, zg_nwin3, zg_nwin4, zg_nwin5, zg_ncode0, zg_ncode1, zg_ncode3, zg_nrule, zg_nstock, zg_nhold, zg_nknown, zg_nord, zg_nrep, zg_ncla, zg_ntou, zg_ncel, zu_nsun0, zu_nsun1, zu_nsun2, zu_nrock0, zu_nrock1, zu_nrock2, zu_nrock3, zu_nrock4, zu_nrock5, zu_nrock6, zu_nrock7, zu_nrock8, zu_nrock9, zu_nrock10, zu_nrock11, zu_nrock12, zu_nrock13, zu_nrock14, zu_ntug0, zu_ntug1, zu_ntug2, zu_ntug3, zu_ntug4, zu_ntug5, zu_ntug6, zu_ntug7, zu_ntug8, zu_ntug9, zu_ntug10, zu_ntug11, zu_ntug12, zu_ntug13, zu_ntug14, zu_ntug15, zu_ntug17, zu_ntug18, zu_ntug19, zu_ntug20, zu_ntug21, zu_ntug22, zu_ncon0, zu_ncon1, zu_ncon2, zu_ncon3, zu_ncon4, zu_ncon5, zu_ncon6, zu_nwin0, zu_nwin1, zu_nwin2, zu_nwin3, zu_nwin4, zu_nwin5, zu_ncode3, zu_nrule, zu_nstock, zu_nhold, zu_nknown, zu_nord, zu_nrep, zu_ncla, zu_ntou, zu_ncel]
    · have c1 : ¬ nI (x.2.1 - x.1) < 6 := nI_nlt (b := 6) (by omega) (by omega)
      rw [if_neg (fun q => e5 q.2), hz0]
      simp +decide (disch := omega) only [e19_0, e19_8, e19_22, h3, h4, h5, es, c1, zpre, ite_self, zs1, zs2, zs3, zI_eqb, and_self, not_true_eq_false, if_true, if_false, ite_true, ite_false, not_false_eq_true, zBP, zBZ, zisO, zisA, zlen, decide_true, decide_false, Bool.and_self, Bool.and_true, Bool.true_and, cond_true, cond_false, zBG, zBR, zBU, zBV, zinb_n, zix_n, zlA, zlB, zlM, zlN, zlX, zlI, nI_add, Nat.add_eq_zero_iff, false_and, and_false, and_true, true_and, true_or, or_true, false_or, or_false, zbool_i, zb0, zb1, zshp_0, zcs_eq, zcs_n, zcs_cs, zup_g, zup_n, zp2_sun, zp2_rock, zp2_tug, zp2_contract, zp2_window, zp2_code, zp2_rbody, zp2_rstock, zp2_tfree, zp2_thold, zp2_tknown, zp2_ccells, zsh2_sun, zsh2_rock, zsh2_body, zsh2_stock, zsh2_tug, zsh2_free, zsh2_hold, zsh2_known, zsh2_contract, zsh2_window, zsh2_code, zsh2_cells, zg_nsun0, zg_nsun1, zg_nsun2, zg_nrock0, zg_nrock1, zg_nrock2, zg_nrock3, zg_nrock4, zg_nrock5, zg_nrock6, zg_nrock7, zg_nrock8, zg_nrock9, zg_nrock10, zg_nrock11, zg_nrock12, zg_nrock13, zg_nrock14, zg_ntug0, zg_ntug1, zg_ntug2, zg_ntug3, zg_ntug4, zg_ntug5, zg_ntug6, zg_ntug7, zg_ntug8, zg_ntug9, zg_ntug10, zg_ntug11, zg_ntug12, zg_ntug13, zg_ntug14, zg_ntug15, zg_ntug17, zg_ntug18, zg_ntug19, zg_ntug20, zg_ntug21, zg_ntug22, zg_ncon0, zg_ncon1, zg_ncon2, zg_ncon3, zg_ncon4, zg_ncon5, zg_ncon6, zg_nwin0, zg_nwin1, zg_nwin2, zg_nwin3, zg_nwin4, zg_nwin5, zg_ncode0, zg_ncode1, zg_ncode3, zg_nrule, zg_nstock, zg_nhold, zg_nknown, zg_nord, zg_nrep, zg_ncla, zg_ntou, zg_ncel, zu_nsun0, zu_nsun1, zu_nsun2, zu_nrock0, zu_nrock1, zu_nrock2, zu_nrock3, zu_nrock4, zu_nrock5, zu_nrock6, zu_nrock7, zu_nrock8, zu_nrock9, zu_nrock10, zu_nrock11, zu_nrock12, zu_nrock13, zu_nrock14, zu_ntug0, zu_ntug1, zu_ntug2, zu_ntug3, zu_ntug4, zu_ntug5, zu_ntug6, zu_ntug7, zu_ntug8, zu_ntug9, zu_ntug10, zu_ntug11, zu_ntug12, zu_ntug13, zu_ntug14, zu_ntug15, zu_ntug17, zu_ntug18, zu_ntug19, zu_ntug20, zu_ntug21, zu_ntug22, zu_ncon0, zu_ncon1, zu_ncon2, zu_ncon3, zu_ncon4, zu_ncon5, zu_ncon6, zu_nwin0, zu_nwin1, zu_nwin2, zu_nwin3, zu_nwin4, zu_nwin5, zu_ncode3, zu_nrule, zu_nstock, zu_nhold, zu_nknown, zu_nord, zu_nrep, zu_ncla, zu_ntou, zu_ncel]
  · have h3 : ¬ C 390 0 3 = 1 := by
      rw [h.2.1]
      exact fun q => by have := (nI_eq (b := 1) (by omega) (by decide)).mp q; omega
    rw [if_neg (fun q => e q.1), hz0]
    simp +decide (disch := omega) only [e19_0, e19_22, h3, zpre, ite_self, zs1, zs2, zs3, zI_eqb, and_self, not_true_eq_false, if_true, if_false, ite_true, ite_false, not_false_eq_true, zBP, zBZ, zisO, zisA, zlen, decide_true, decide_false, Bool.and_self, Bool.and_true, Bool.true_and, cond_true, cond_false, zBG, zBR, zBU, zBV, zinb_n, zix_n, zlA, zlB, zlM, zlN, zlX, zlI, nI_add, Nat.add_eq_zero_iff, false_and, and_false, and_true, true_and, true_or, or_true, false_or, or_false, zbool_i, zb0, zb1, zshp_0, zcs_eq, zcs_n, zcs_cs, zup_g, zup_n, zp2_sun, zp2_rock, zp2_tug, zp2_contract, zp2_window, zp2_code, zp2_rbody, zp2_rstock, zp2_tfree, zp2_thold, zp2_tknown, zp2_ccells, zsh2_sun, zsh2_rock, zsh2_body, zsh2_stock, zsh2_tug, zsh2_free, zsh2_hold, zsh2_known, zsh2_contract, zsh2_window, zsh2_code, zsh2_cells, zg_nsun0, zg_nsun1, zg_nsun2, zg_nrock0, zg_nrock1, zg_nrock2, zg_nrock3, zg_nrock4, zg_nrock5, zg_nrock6, zg_nrock7, zg_nrock8, zg_nrock9, zg_nrock10, zg_nrock11, zg_nrock12, zg_nrock13, zg_nrock14, zg_ntug0, zg_ntug1, zg_ntug2, zg_ntug3, zg_ntug4, zg_ntug5, zg_ntug6, zg_ntug7, zg_ntug8, zg_ntug9, zg_ntug10, zg_ntug11, zg_ntug12, zg_ntug13, zg_ntug14, zg_ntug15, zg_ntug17, zg_ntug18, zg_ntug19, zg_ntug20, zg_ntug21, zg_ntug22, zg_ncon0, zg_ncon1, zg_ncon2, zg_ncon3, zg_ncon4, zg_ncon5, zg_ncon6, zg_nwin0, zg_nwin1, zg_nwin2, zg_nwin3, zg_nwin4, zg_nwin5, zg_ncode0, zg_ncode1, zg_ncode3, zg_nrule, zg_nstock, zg_nhold, zg_nknown, zg_nord, zg_nrep, zg_ncla, zg_ntou, zg_ncel, zu_nsun0, zu_nsun1, zu_nsun2, zu_nrock0, zu_nrock1, zu_nrock2, zu_nrock3, zu_nrock4, zu_nrock5, zu_nrock6, zu_nrock7, zu_nrock8, zu_nrock9, zu_nrock10, zu_nrock11, zu_nrock12, zu_nrock13, zu_nrock14, zu_ntug0, zu_ntug1, zu_ntug2, zu_ntug3, zu_ntug4, zu_ntug5, zu_ntug6, zu_ntug7, zu_ntug8, zu_ntug9, zu_ntug10, zu_ntug11, zu_ntug12, zu_ntug13, zu_ntug14, zu_ntug15, zu_ntug17, zu_ntug18, zu_ntug19, zu_ntug20, zu_ntug21, zu_ntug22, zu_ncon0, zu_ncon1, zu_ncon2, zu_ncon3, zu_ncon4, zu_ncon5, zu_ncon6, zu_nwin0, zu_nwin1, zu_nwin2, zu_nwin3, zu_nwin4, zu_nwin5, zu_ncode3, zu_nrule, zu_nstock, zu_nhold, zu_nknown, zu_nord, zu_nrep, zu_ncla, zu_ntou, zu_ncel]

theorem t187_aim (d : Nat) (Z : List (Nat × Nat)) (I : Nat → Nat → Int32) (P : Nat → Nat → Nat) : zR d 187 0 [.int 97, .int 105, .int 109, .int 0, .int 0, zmk, zmk] [] (Z, I, P) = some (some (.long (Int64.ofNat 985)), (Z, I, P)) := by
  rw [e187_0, if_pos (by decide), e187_17, e187_30, if_pos (by decide), e187_41, e187_54, if_neg (fun q => q rfl), e187_60, e187_78, if_neg (fun q => q rfl), e187_85, e187_104]
  rfl
theorem t187_burn (d : Nat) (Z : List (Nat × Nat)) (I : Nat → Nat → Int32) (P : Nat → Nat → Nat) : zR d 187 0 [.int 98, .int 117, .int 114, .int 110, .int 0, zmk, zmk] [] (Z, I, P) = some (some (.long (Int64.ofNat 55175)), (Z, I, P)) := by
  rw [e187_0, if_pos (by decide), e187_17, e187_30, if_pos (by decide), e187_41, e187_54, if_pos (by decide), e187_65, e187_78, if_neg (fun q => q rfl), e187_85, e187_104]
  rfl
theorem t187_dock (d : Nat) (Z : List (Nat × Nat)) (I : Nat → Nat → Int32) (P : Nat → Nat → Nat) : zR d 187 0 [.int 100, .int 111, .int 99, .int 107, .int 0, zmk, zmk] [] (Z, I, P) = some (some (.long (Int64.ofNat 89759)), (Z, I, P)) := by
  rw [e187_0, if_pos (by decide), e187_17, e187_30, if_pos (by decide), e187_41, e187_54, if_pos (by decide), e187_65, e187_78, if_neg (fun q => q rfl), e187_85, e187_104]
  rfl
theorem t187_free (d : Nat) (Z : List (Nat × Nat)) (I : Nat → Nat → Int32) (P : Nat → Nat → Nat) : zR d 187 0 [.int 102, .int 114, .int 101, .int 101, .int 0, zmk, zmk] [] (Z, I, P) = some (some (.long (Int64.ofNat 131360)), (Z, I, P)) := by
  rw [e187_0, if_pos (by decide), e187_17, e187_30, if_pos (by decide), e187_41, e187_54, if_pos (by decide), e187_65, e187_78, if_neg (fun q => q rfl), e187_85, e187_104]
  rfl
theorem t187_dig (d : Nat) (Z : List (Nat × Nat)) (I : Nat → Nat → Int32) (P : Nat → Nat → Nat) : zR d 187 0 [.int 100, .int 105, .int 103, .int 0, .int 0, zmk, zmk] [] (Z, I, P) = some (some (.long (Int64.ofNat 3166)), (Z, I, P)) := by
  rw [e187_0, if_pos (by decide), e187_17, e187_30, if_pos (by decide), e187_41, e187_54, if_neg (fun q => q rfl), e187_60, e187_78, if_neg (fun q => q rfl), e187_85, e187_104]
  rfl
theorem t187_make (d : Nat) (Z : List (Nat × Nat)) (I : Nat → Nat → Int32) (P : Nat → Nat → Nat) : zR d 187 0 [.int 109, .int 97, .int 107, .int 101, .int 0, zmk, zmk] [] (Z, I, P) = some (some (.long (Int64.ofNat 256910)), (Z, I, P)) := by
  rw [e187_0, if_pos (by decide), e187_17, e187_30, if_pos (by decide), e187_41, e187_54, if_pos (by decide), e187_65, e187_78, if_neg (fun q => q rfl), e187_85, e187_104]
  rfl
theorem t187_give (d : Nat) (Z : List (Nat × Nat)) (I : Nat → Nat → Int32) (P : Nat → Nat → Nat) : zR d 187 0 [.int 103, .int 105, .int 118, .int 101, .int 0, zmk, zmk] [] (Z, I, P) = some (some (.long (Int64.ofNat 144941)), (Z, I, P)) := by
  rw [e187_0, if_pos (by decide), e187_17, e187_30, if_pos (by decide), e187_41, e187_54, if_pos (by decide), e187_65, e187_78, if_neg (fun q => q rfl), e187_85, e187_104]
  rfl
theorem t187_still (d : Nat) (Z : List (Nat × Nat)) (I : Nat → Nat → Int32) (P : Nat → Nat → Nat) : zR d 187 0 [.int 115, .int 116, .int 105, .int 108, .int 108, zmk, zmk] [] (Z, I, P) = some (some (.long (Int64.ofNat 10497936)), (Z, I, P)) := by
  rw [e187_0, if_pos (by decide), e187_17, e187_30, if_pos (by decide), e187_41, e187_54, if_pos (by decide), e187_65, e187_78, if_pos (by decide), e187_90, e187_104]
  rfl
theorem t187_shed (d : Nat) (Z : List (Nat × Nat)) (I : Nat → Nat → Int32) (P : Nat → Nat → Nat) : zR d 187 0 [.int 115, .int 104, .int 101, .int 100, .int 0, zmk, zmk] [] (Z, I, P) = some (some (.long (Int64.ofNat 379948)), (Z, I, P)) := by
  rw [e187_0, if_pos (by decide), e187_17, e187_30, if_pos (by decide), e187_41, e187_54, if_pos (by decide), e187_65, e187_78, if_neg (fun q => q rfl), e187_85, e187_104]
  rfl
theorem t187_claim (d : Nat) (Z : List (Nat × Nat)) (I : Nat → Nat → Int32) (P : Nat → Nat → Nat) : zR d 187 0 [.int 99, .int 108, .int 97, .int 105, .int 109, zmk, zmk] [] (Z, I, P) = some (some (.long (Int64.ofNat 1831504)), (Z, I, P)) := by
  rw [e187_0, if_pos (by decide), e187_17, e187_30, if_pos (by decide), e187_41, e187_54, if_pos (by decide), e187_65, e187_78, if_pos (by decide), e187_90, e187_104]
  rfl
theorem t187_wait (d : Nat) (Z : List (Nat × Nat)) (I : Nat → Nat → Int32) (P : Nat → Nat → Nat) : zR d 187 0 [.int 119, .int 97, .int 105, .int 116, .int 0, zmk, zmk] [] (Z, I, P) = some (some (.long (Int64.ofNat 453701)), (Z, I, P)) := by
  rw [e187_0, if_pos (by decide), e187_17, e187_30, if_pos (by decide), e187_41, e187_54, if_pos (by decide), e187_65, e187_78, if_neg (fun q => q rfl), e187_85, e187_104]
  rfl
theorem t187_until (d : Nat) (Z : List (Nat × Nat)) (I : Nat → Nat → Int32) (P : Nat → Nat → Nat) : zR d 187 0 [.int 117, .int 110, .int 116, .int 105, .int 108, zmk, zmk] [] (Z, I, P) = some (some (.long (Int64.ofNat 11450658)), (Z, I, P)) := by
  rw [e187_0, if_pos (by decide), e187_17, e187_30, if_pos (by decide), e187_41, e187_54, if_pos (by decide), e187_65, e187_78, if_pos (by decide), e187_90, e187_104]
  rfl
theorem t187_if (d : Nat) (Z : List (Nat × Nat)) (I : Nat → Nat → Int32) (P : Nat → Nat → Nat) : zR d 187 0 [.int 105, .int 102, .int 0, .int 0, .int 0, zmk, zmk] [] (Z, I, P) = some (some (.long (Int64.ofNat 249)), (Z, I, P)) := by
  rw [e187_0, if_pos (by decide), e187_17, e187_30, if_neg (fun q => q rfl), e187_36, e187_54, if_neg (fun q => q rfl), e187_60, e187_78, if_neg (fun q => q rfl), e187_85, e187_104]
  rfl
theorem t187_while (d : Nat) (Z : List (Nat × Nat)) (I : Nat → Nat → Int32) (P : Nat → Nat → Nat) : zR d 187 0 [.int 119, .int 104, .int 105, .int 108, .int 101, zmk, zmk] [] (Z, I, P) = some (some (.long (Int64.ofNat 12387497)), (Z, I, P)) := by
  rw [e187_0, if_pos (by decide), e187_17, e187_30, if_pos (by decide), e187_41, e187_54, if_pos (by decide), e187_65, e187_78, if_pos (by decide), e187_90, e187_104]
  rfl
theorem t187_else (d : Nat) (Z : List (Nat × Nat)) (I : Nat → Nat → Int32) (P : Nat → Nat → Nat) : zR d 187 0 [.int 101, .int 108, .int 115, .int 101, .int 0, zmk, zmk] [] (Z, I, P) = some (some (.long (Int64.ofNat 107681)), (Z, I, P)) := by
  rw [e187_0, if_pos (by decide), e187_17, e187_30, if_pos (by decide), e187_41, e187_54, if_pos (by decide), e187_65, e187_78, if_neg (fun q => q rfl), e187_85, e187_104]
  rfl
def zlw (T : Nat → Nat) (x : zLx) : Int64 := if x.2.2 = 1 ∧ x.2.1 - x.1 ≤ 5 then zwl T (x.2.1 - x.1) x.1 0 else -1
theorem zlw_eq {T : Nat → Nat} {n : Nat} {x : zLx} (hk : zTk T n x) {k : Nat} (h0 : 0 < k) (hk2 : k < 2147483648) : lg_cmp (zlw T x) (Int64.ofNat k) = 0 ↔ zV T x = k := by
  have ek : (Int64.ofNat k).toInt = k := Int64.toInt_ofNat_of_lt (by omega)
  rw [lg_cmp_eq]
  unfold zlw zV
  by_cases e : x.2.2 = 1 ∧ x.2.1 - x.1 ≤ 5
  · rw [if_pos e, if_pos e]
    have hlt := hk.2.2.2.2.1 (by rw [e.1]; decide)
    have q := zwl_n T (x.2.1 - x.1) x.1 0 0 e.2 (fun j h1 h2 => zsrt_1 (hk.2.2.2.2.2.2.1 e.1 j h1 (by omega))) rfl (by
      rcases (show x.2.1 - x.1 = 0 ∨ x.2.1 - x.1 = 1 ∨ x.2.1 - x.1 = 2 ∨ x.2.1 - x.1 = 3 ∨ x.2.1 - x.1 = 4 ∨ x.2.1 - x.1 = 5 by omega) with w | w | w | w | w | w <;> rw [w] <;> decide)
    constructor
    · intro w
      rw [w, ek] at q
      omega
    · intro w
      apply Int64.toInt_inj.mp
      rw [q, ek, w]
  · rw [if_neg e, if_neg e]
    constructor
    · intro w
      have := congrArg Int64.toInt w
      rw [ek] at this
      have h1 : (-1 : Int64).toInt = -1 := rfl
      omega
    · intro w; omega
theorem M186_l (d L p0 p2 r2 r3 s4 : Nat) (C : zCt) {T : Nat → Nat} {n : Nat} {x : zLx} (h : zPM T n C x) (hk : zTk T n x) (hl6 : x.2.1 - x.1 ≤ 5) : ∀ (m i : Nat) (a : Int64) (v2 : Value), i + m = x.2.1 → x.1 ≤ i → ∃ v2', zR d 186 7 [.ref 201, .long a, v2, .int (nI i)] [] (zZ L, zI C, zPd p0 p2 r2 r3 s4) = zR d 186 50 [.ref 201, .long (zwl T m i a), v2', .int (nI x.2.1)] [] (zZ L, zI C, zPd p0 p2 r2 r3 s4) := by
  have h120 := h.1.2.1
  have hn := hk.2.1
  have h1 := hk.1
  have h5 := h.2.2.1
  have h6 := h.2.2.2.1
  intro m
  induction m with
  | zero =>
    intro i a v2 hi hx
    obtain rfl : i = x.2.1 := by omega
    have c1 : nI x.2.1 ≤ nI x.2.1 := Int32.le_refl _
    refine ⟨v2, ?_⟩
    rw [e186_7, show zwl T 0 x.2.1 a = a from rfl]
    simp +decide (disch := omega) only [h6, c1, zpre, ite_self, Nat.reduceAdd, zs1, zs2, zs3, zI_eqb, and_self, not_true_eq_false, if_true, if_false, ite_true, ite_false, not_false_eq_true, zBP, zBZ, zisO, zisA, zlen, decide_true, decide_false, Bool.and_self, Bool.and_true, Bool.true_and, cond_true, cond_false, zBG, zBR, zBU, zBV, zinb_n, zix_n, zlA, zlB, zlM, zlN, zlX, zlI, nI_add, Nat.add_eq_zero_iff, false_and, and_false, and_true, true_and, true_or, or_true, false_or, or_false, zbool_i, zb0, zb1, zshp_0, zcs_eq, zcs_n, zcs_cs, zup_g, zup_n, zg_srock2, zg_stug2, zg_ssun, zg_ssun0, zg_srock, zg_srock0, zg_stug, zg_stug0, zg_sord, zg_sord0, zg_srep, zg_srep0, zg_scla, zg_scla0, zg_scon, zg_scon0, zg_swin, zg_swin0, zg_sleg, zg_sleg0, zg_spro, zg_sstp, zg_swrd, zu_srock2, zu_stug2, zu_ssun, zu_ssun0, zu_srock, zu_srock0, zu_stug, zu_stug0, zu_sord, zu_sord0, zu_srep, zu_srep0, zu_scla, zu_scla0, zu_scon, zu_scon0, zu_swin, zu_swin0, zu_sleg, zu_sleg0, zu_spro, zu_sstp, zu_swrd]
  | succ m IH =>
    intro i a v2 hi hx
    have c1 : ¬ nI x.2.1 ≤ nI i := nI_ge (by omega) (by omega)
    have es : nI i - nI x.1 = nI (i - x.1) := nI_sub hx
    have c2 : ¬ (6 : Int32) ≤ nI (i - x.1) := nI_ge (b := 6) (by omega) (by decide)
    have t := (h.1.2.2 i (by omega)).1
    obtain ⟨v', IH2⟩ := IH (i + 1) (a * 27 + (nI (T i)).toInt64 - 96) (zkl zmk) (by omega) (by omega)
    refine ⟨v', ?_⟩
    rw [e186_7, show zwl T (m + 1) i a = zwl T m (i + 1) (a * 27 + (nI (T i)).toInt64 - 96) from rfl, ← IH2]
    simp +decide (disch := omega) only [h5, h6, c1, c2, es, e186_15, e186_26, t, zpre, ite_self, Nat.reduceAdd, zs1, zs2, zs3, zI_eqb, and_self, not_true_eq_false, if_true, if_false, ite_true, ite_false, not_false_eq_true, zBP, zBZ, zisO, zisA, zlen, decide_true, decide_false, Bool.and_self, Bool.and_true, Bool.true_and, cond_true, cond_false, zBG, zBR, zBU, zBV, zinb_n, zix_n, zlA, zlB, zlM, zlN, zlX, zlI, nI_add, Nat.add_eq_zero_iff, false_and, and_false, and_true, true_and, true_or, or_true, false_or, or_false, zbool_i, zb0, zb1, zshp_0, zcs_eq, zcs_n, zcs_cs, zup_g, zup_n, zg_srock2, zg_stug2, zg_ssun, zg_ssun0, zg_srock, zg_srock0, zg_stug, zg_stug0, zg_sord, zg_sord0, zg_srep, zg_srep0, zg_scla, zg_scla0, zg_scon, zg_scon0, zg_swin, zg_swin0, zg_sleg, zg_sleg0, zg_spro, zg_sstp, zg_swrd, zu_srock2, zu_stug2, zu_ssun, zu_ssun0, zu_srock, zu_srock0, zu_stug, zu_stug0, zu_sord, zu_sord0, zu_srep, zu_srep0, zu_scla, zu_scla0, zu_scon, zu_scon0, zu_swin, zu_swin0, zu_sleg, zu_sleg0, zu_spro, zu_sstp, zu_swrd]
theorem M186_z (d L p0 p2 r2 r3 s4 : Nat) (C : zCt) {T : Nat → Nat} {n : Nat} {x : zLx} (h : zPM T n C x) (hk : zTk T n x) : ∀ (m i : Nat) (a : Int64) (v2 : Value), i + m = x.2.1 → x.1 ≤ i → ∃ (v2' v3 : Value) (a' : Int64) (x3 : Int32), zR d 186 7 [.ref 201, .long a, v2, .int (nI i)] [] (zZ L, zI C, zPd p0 p2 r2 r3 s4) = zR d 186 50 [.ref 201, .long a', v2', .int x3] [] (zZ L, zI C, zPd p0 p2 r2 r3 s4) := by
  have h120 := h.1.2.1
  have hn := hk.2.1
  have h1 := hk.1
  have h5 := h.2.2.1
  have h6 := h.2.2.2.1
  intro m
  induction m with
  | zero =>
    intro i a v2 hi hx
    obtain rfl : i = x.2.1 := by omega
    have c1 : nI x.2.1 ≤ nI x.2.1 := Int32.le_refl _
    refine ⟨v2, v2, a, nI x.2.1, ?_⟩
    rw [e186_7]
    simp +decide (disch := omega) only [h6, c1, zpre, ite_self, Nat.reduceAdd, zs1, zs2, zs3, zI_eqb, and_self, not_true_eq_false, if_true, if_false, ite_true, ite_false, not_false_eq_true, zBP, zBZ, zisO, zisA, zlen, decide_true, decide_false, Bool.and_self, Bool.and_true, Bool.true_and, cond_true, cond_false, zBG, zBR, zBU, zBV, zinb_n, zix_n, zlA, zlB, zlM, zlN, zlX, zlI, nI_add, Nat.add_eq_zero_iff, false_and, and_false, and_true, true_and, true_or, or_true, false_or, or_false, zbool_i, zb0, zb1, zshp_0, zcs_eq, zcs_n, zcs_cs, zup_g, zup_n, zg_srock2, zg_stug2, zg_ssun, zg_ssun0, zg_srock, zg_srock0, zg_stug, zg_stug0, zg_sord, zg_sord0, zg_srep, zg_srep0, zg_scla, zg_scla0, zg_scon, zg_scon0, zg_swin, zg_swin0, zg_sleg, zg_sleg0, zg_spro, zg_sstp, zg_swrd, zu_srock2, zu_stug2, zu_ssun, zu_ssun0, zu_srock, zu_srock0, zu_stug, zu_stug0, zu_sord, zu_sord0, zu_srep, zu_srep0, zu_scla, zu_scla0, zu_scon, zu_scon0, zu_swin, zu_swin0, zu_sleg, zu_sleg0, zu_spro, zu_sstp, zu_swrd]
  | succ m IH =>
    intro i a v2 hi hx
    have c1 : ¬ nI x.2.1 ≤ nI i := nI_ge (by omega) (by omega)
    have es : nI i - nI x.1 = nI (i - x.1) := nI_sub hx
    have t := (h.1.2.2 i (by omega)).1
    by_cases c : 6 ≤ i - x.1
    · have c2 : (6 : Int32) ≤ nI (i - x.1) := nI_le (a := 6) c (by omega)
      refine ⟨v2, v2, a, nI i, ?_⟩
      rw [e186_7]
      simp +decide (disch := omega) only [h5, h6, c1, c2, es, e186_15, zpre, ite_self, Nat.reduceAdd, zs1, zs2, zs3, zI_eqb, and_self, not_true_eq_false, if_true, if_false, ite_true, ite_false, not_false_eq_true, zBP, zBZ, zisO, zisA, zlen, decide_true, decide_false, Bool.and_self, Bool.and_true, Bool.true_and, cond_true, cond_false, zBG, zBR, zBU, zBV, zinb_n, zix_n, zlA, zlB, zlM, zlN, zlX, zlI, nI_add, Nat.add_eq_zero_iff, false_and, and_false, and_true, true_and, true_or, or_true, false_or, or_false, zbool_i, zb0, zb1, zshp_0, zcs_eq, zcs_n, zcs_cs, zup_g, zup_n, zg_srock2, zg_stug2, zg_ssun, zg_ssun0, zg_srock, zg_srock0, zg_stug, zg_stug0, zg_sord, zg_sord0, zg_srep, zg_srep0, zg_scla, zg_scla0, zg_scon, zg_scon0, zg_swin, zg_swin0, zg_sleg, zg_sleg0, zg_spro, zg_sstp, zg_swrd, zu_srock2, zu_stug2, zu_ssun, zu_ssun0, zu_srock, zu_srock0, zu_stug, zu_stug0, zu_sord, zu_sord0, zu_srep, zu_srep0, zu_scla, zu_scla0, zu_scon, zu_scon0, zu_swin, zu_swin0, zu_sleg, zu_sleg0, zu_spro, zu_sstp, zu_swrd]
    · have c2 : ¬ (6 : Int32) ≤ nI (i - x.1) := nI_ge (b := 6) (by omega) (by decide)
      obtain ⟨v', w', a', x3, IH2⟩ := IH (i + 1) (a * 27 + (nI (T i)).toInt64 - 96) (zkl zmk) (by omega) (by omega)
      refine ⟨v', w', a', x3, ?_⟩
      rw [e186_7, ← IH2]
      simp +decide (disch := omega) only [h5, h6, c1, c2, es, e186_15, e186_26, t, zpre, ite_self, Nat.reduceAdd, zs1, zs2, zs3, zI_eqb, and_self, not_true_eq_false, if_true, if_false, ite_true, ite_false, not_false_eq_true, zBP, zBZ, zisO, zisA, zlen, decide_true, decide_false, Bool.and_self, Bool.and_true, Bool.true_and, cond_true, cond_false, zBG, zBR, zBU, zBV, zinb_n, zix_n, zlA, zlB, zlM, zlN, zlX, zlI, nI_add, Nat.add_eq_zero_iff, false_and, and_false, and_true, true_and, true_or, or_true, false_or, or_false, zbool_i, zb0, zb1, zshp_0, zcs_eq, zcs_n, zcs_cs, zup_g, zup_n, zg_srock2, zg_stug2, zg_ssun, zg_ssun0, zg_srock, zg_srock0, zg_stug, zg_stug0, zg_sord, zg_sord0, zg_srep, zg_srep0, zg_scla, zg_scla0, zg_scon, zg_scon0, zg_swin, zg_swin0, zg_sleg, zg_sleg0, zg_spro, zg_sstp, zg_swrd, zu_srock2, zu_stug2, zu_ssun, zu_ssun0, zu_srock, zu_srock0, zu_stug, zu_stug0, zu_sord, zu_sord0, zu_srep, zu_srep0, zu_scla, zu_scla0, zu_scon, zu_scon0, zu_swin, zu_swin0, zu_sleg, zu_sleg0, zu_spro, zu_sstp, zu_swrd]
theorem M186 (d L p0 p2 r2 r3 s4 : Nat) (C : zCt) {T : Nat → Nat} {n : Nat} {x : zLx} (h : zPM T n C x) (hk : zTk T n x) : zR d 186 0 [.ref 201, zmk, zmk, zmk] [] (zZ L, zI C, zPd p0 p2 r2 r3 s4) = some (some (.long (zlw T x)), (zZ L, zI C, zPd p0 p2 r2 r3 s4)) := by
  have h120 := h.1.2.1
  have hn := hk.2.1
  have h1 := hk.1
  have h5 := h.2.2.1
  have h6 := h.2.2.2.1
  have hk5 := hk.2.2.1
  have es : nI x.2.1 - nI x.1 = nI (x.2.1 - x.1) := nI_sub h1
  unfold zlw
  by_cases e : x.2.2 = 1 ∧ x.2.1 - x.1 ≤ 5
  · have h8 : C 401 0 8 = 1 := by have := h.2.1; rw [e.1] at this; exact this
    have c1 : ¬ (5 : Int32) < nI (x.2.1 - x.1) := nI_nlt (a := 5) (by omega) (by omega)
    obtain ⟨v', t⟩ := M186_l d L p0 p2 r2 r3 s4 C h hk e.2 (x.2.1 - x.1) x.1 0 (zkl zmk) (by omega) (Nat.le_refl _)
    rw [if_pos e]
    simp +decide (disch := omega) only [e186_0, e186_50, e186_58, e186_71, e186_78, h5, h6, h8, es, c1, t, zpre, ite_self, Nat.reduceAdd, zs1, zs2, zs3, zI_eqb, and_self, not_true_eq_false, if_true, if_false, ite_true, ite_false, not_false_eq_true, zBP, zBZ, zisO, zisA, zlen, decide_true, decide_false, Bool.and_self, Bool.and_true, Bool.true_and, cond_true, cond_false, zBG, zBR, zBU, zBV, zinb_n, zix_n, zlA, zlB, zlM, zlN, zlX, zlI, nI_add, Nat.add_eq_zero_iff, false_and, and_false, and_true, true_and, true_or, or_true, false_or, or_false, zbool_i, zb0, zb1, zshp_0, zcs_eq, zcs_n, zcs_cs, zup_g, zup_n, zg_srock2, zg_stug2, zg_ssun, zg_ssun0, zg_srock, zg_srock0, zg_stug, zg_stug0, zg_sord, zg_sord0, zg_srep, zg_srep0, zg_scla, zg_scla0, zg_scon, zg_scon0, zg_swin, zg_swin0, zg_sleg, zg_sleg0, zg_spro, zg_sstp, zg_swrd, zu_srock2, zu_stug2, zu_ssun, zu_ssun0, zu_srock, zu_srock0, zu_stug, zu_stug0, zu_sord, zu_sord0, zu_srep, zu_srep0, zu_scla, zu_scla0, zu_scon, zu_scon0, zu_swin, zu_swin0, zu_sleg, zu_sleg0, zu_spro, zu_sstp, zu_swrd]
  · obtain ⟨v', w', a', x3, t⟩ := M186_z d L p0 p2 r2 r3 s4 C h hk (x.2.1 - x.1) x.1 0 (zkl zmk) (by omega) (Nat.le_refl _)
    rw [if_neg e]
    by_cases e1 : x.2.2 = 1
    · have h8 : C 401 0 8 = 1 := by have := h.2.1; rw [e1] at this; exact this
      have c1 : (5 : Int32) < nI (x.2.1 - x.1) := nI_lt (a := 5) (by omega) (by omega)
      simp +decide (disch := omega) only [e186_0, e186_50, e186_58, e186_75, e186_78, h5, h6, h8, es, c1, t, zpre, ite_self, Nat.reduceAdd, zs1, zs2, zs3, zI_eqb, and_self, not_true_eq_false, if_true, if_false, ite_true, ite_false, not_false_eq_true, zBP, zBZ, zisO, zisA, zlen, decide_true, decide_false, Bool.and_self, Bool.and_true, Bool.true_and, cond_true, cond_false, zBG, zBR, zBU, zBV, zinb_n, zix_n, zlA, zlB, zlM, zlN, zlX, zlI, nI_add, Nat.add_eq_zero_iff, false_and, and_false, and_true, true_and, true_or, or_true, false_or, or_false, zbool_i, zb0, zb1, zshp_0, zcs_eq, zcs_n, zcs_cs, zup_g, zup_n, zg_srock2, zg_stug2, zg_ssun, zg_ssun0, zg_srock, zg_srock0, zg_stug, zg_stug0, zg_sord, zg_sord0, zg_srep, zg_srep0, zg_scla, zg_scla0, zg_scon, zg_scon0, zg_swin, zg_swin0, zg_sleg, zg_sleg0, zg_spro, zg_sstp, zg_swrd, zu_srock2, zu_stug2, zu_ssun, zu_ssun0, zu_srock, zu_srock0, zu_stug, zu_stug0, zu_sord, zu_sord0, zu_srep, zu_srep0, zu_scla, zu_scla0, zu_scon, zu_scon0, zu_swin, zu_swin0, zu_sleg, zu_sleg0, zu_spro, zu_sstp, zu_swrd]
    · have h8 : ¬ C 401 0 8 = 1 := by
        rw [h.2.1]
        unfold zso
        split
        · decide
        · exact fun q => e1 ((nI_eq (b := 1) (by omega) (by decide)).mp q)
      simp +decide (disch := omega) only [e186_0, e186_50, e186_75, e186_78, h5, h8, t, zpre, ite_self, Nat.reduceAdd, zs1, zs2, zs3, zI_eqb, and_self, not_true_eq_false, if_true, if_false, ite_true, ite_false, not_false_eq_true, zBP, zBZ, zisO, zisA, zlen, decide_true, decide_false, Bool.and_self, Bool.and_true, Bool.true_and, cond_true, cond_false, zBG, zBR, zBU, zBV, zinb_n, zix_n, zlA, zlB, zlM, zlN, zlX, zlI, nI_add, Nat.add_eq_zero_iff, false_and, and_false, and_true, true_and, true_or, or_true, false_or, or_false, zbool_i, zb0, zb1, zshp_0, zcs_eq, zcs_n, zcs_cs, zup_g, zup_n, zg_srock2, zg_stug2, zg_ssun, zg_ssun0, zg_srock, zg_srock0, zg_stug, zg_stug0, zg_sord, zg_sord0, zg_srep, zg_srep0, zg_scla, zg_scla0, zg_scon, zg_scon0, zg_swin, zg_swin0, zg_sleg, zg_sleg0, zg_spro, zg_sstp, zg_swrd, zu_srock2, zu_stug2, zu_ssun, zu_ssun0, zu_srock, zu_srock0, zu_stug, zu_stug0, zu_sord, zu_sord0, zu_srep, zu_srep0, zu_scla, zu_scla0, zu_scon, zu_scon0, zu_swin, zu_swin0, zu_sleg, zu_sleg0, zu_spro, zu_sstp, zu_swrd]
def zsm (V : Nat) : Nat := if V = 89759 then 3 else if V = 131360 then 4 else if V = 3166 then 5 else if V = 256910 then 6 else if V = 144941 then 7 else if V = 10497936 then 8 else if V = 379948 then 9 else if V = 1831504 then 10 else if V = 453701 then 11 else 0
theorem M190 (d : Nat) (Z : List (Nat × Nat)) (I : Nat → Nat → Int32) (P : Nat → Nat → Nat) {T : Nat → Nat} {n : Nat} {x : zLx} (hk : zTk T n x) (v : Value) : zR (d + 1) 190 0 [.ref 201, .long (zlw T x), v] [] (Z, I, P) = some (some (.int (nI (zsm (zV T x)))), (Z, I, P)) := by
  unfold zsm
  have c0 := zlw_eq (T := T) hk (k := 89759) (by decide) (by decide)
  have c1 := zlw_eq (T := T) hk (k := 131360) (by decide) (by decide)
  have c2 := zlw_eq (T := T) hk (k := 3166) (by decide) (by decide)
  have c3 := zlw_eq (T := T) hk (k := 256910) (by decide) (by decide)
  have c4 := zlw_eq (T := T) hk (k := 144941) (by decide) (by decide)
  have c5 := zlw_eq (T := T) hk (k := 10497936) (by decide) (by decide)
  have c6 := zlw_eq (T := T) hk (k := 379948) (by decide) (by decide)
  have c7 := zlw_eq (T := T) hk (k := 1831504) (by decide) (by decide)
  have c8 := zlw_eq (T := T) hk (k := 453701) (by decide) (by decide)
  by_cases v0 : zV T x = 89759
  · rw [if_pos v0]
    have k0 := eq_true (c0.mpr v0)
    simp only [e190_0, e190_0, e190_13, e190_17, t187_dock, t187_dock, zs1, zs2, List.cons_append, List.nil_append, k0, not_true_eq_false, if_false]
    rfl
  have k0 : ¬ lg_cmp (zlw T x) (Int64.ofNat 89759) = 0 := fun q => v0 (c0.mp q)
  by_cases v1 : zV T x = 131360
  · rw [if_neg v0, if_pos v1]
    have k1 := eq_true (c1.mpr v1)
    simp only [e190_0, e190_13, e190_19, e190_32, e190_36, t187_dock, t187_free, zs1, zs2, List.cons_append, List.nil_append, k1, not_true_eq_false, if_false, k0, not_false_eq_true, if_true]
    rfl
  have k1 : ¬ lg_cmp (zlw T x) (Int64.ofNat 131360) = 0 := fun q => v1 (c1.mp q)
  by_cases v2 : zV T x = 3166
  · rw [if_neg v0, if_neg v1, if_pos v2]
    have k2 := eq_true (c2.mpr v2)
    simp only [e190_0, e190_13, e190_19, e190_32, e190_38, e190_50, e190_54, t187_dock, t187_free, t187_dig, zs1, zs2, List.cons_append, List.nil_append, k2, not_true_eq_false, if_false, k0, k1, not_false_eq_true, if_true]
    rfl
  have k2 : ¬ lg_cmp (zlw T x) (Int64.ofNat 3166) = 0 := fun q => v2 (c2.mp q)
  by_cases v3 : zV T x = 256910
  · rw [if_neg v0, if_neg v1, if_neg v2, if_pos v3]
    have k3 := eq_true (c3.mpr v3)
    simp only [e190_0, e190_13, e190_19, e190_32, e190_38, e190_50, e190_56, e190_69, e190_73, t187_dock, t187_free, t187_dig, t187_make, zs1, zs2, List.cons_append, List.nil_append, k3, not_true_eq_false, if_false, k0, k1, k2, not_false_eq_true, if_true]
    rfl
  have k3 : ¬ lg_cmp (zlw T x) (Int64.ofNat 256910) = 0 := fun q => v3 (c3.mp q)
  by_cases v4 : zV T x = 144941
  · rw [if_neg v0, if_neg v1, if_neg v2, if_neg v3, if_pos v4]
    have k4 := eq_true (c4.mpr v4)
    simp only [e190_0, e190_13, e190_19, e190_32, e190_38, e190_50, e190_56, e190_69, e190_76, e190_89, e190_93, t187_dock, t187_free, t187_dig, t187_make, t187_give, zs1, zs2, List.cons_append, List.nil_append, k4, not_true_eq_false, if_false, k0, k1, k2, k3, not_false_eq_true, if_true]
    rfl
  have k4 : ¬ lg_cmp (zlw T x) (Int64.ofNat 144941) = 0 := fun q => v4 (c4.mp q)
  by_cases v5 : zV T x = 10497936
  · rw [if_neg v0, if_neg v1, if_neg v2, if_neg v3, if_neg v4, if_pos v5]
    have k5 := eq_true (c5.mpr v5)
    simp only [e190_0, e190_13, e190_19, e190_32, e190_38, e190_50, e190_56, e190_69, e190_76, e190_89, e190_96, e190_110, e190_114, t187_dock, t187_free, t187_dig, t187_make, t187_give, t187_still, zs1, zs2, List.cons_append, List.nil_append, k5, not_true_eq_false, if_false, k0, k1, k2, k3, k4, not_false_eq_true, if_true]
    rfl
  have k5 : ¬ lg_cmp (zlw T x) (Int64.ofNat 10497936) = 0 := fun q => v5 (c5.mp q)
  by_cases v6 : zV T x = 379948
  · rw [if_neg v0, if_neg v1, if_neg v2, if_neg v3, if_neg v4, if_neg v5, if_pos v6]
    have k6 := eq_true (c6.mpr v6)
    simp only [e190_0, e190_13, e190_19, e190_32, e190_38, e190_50, e190_56, e190_69, e190_76, e190_89, e190_96, e190_110, e190_117, e190_130, e190_134, t187_dock, t187_free, t187_dig, t187_make, t187_give, t187_still, t187_shed, zs1, zs2, List.cons_append, List.nil_append, k6, not_true_eq_false, if_false, k0, k1, k2, k3, k4, k5, not_false_eq_true, if_true]
    rfl
  have k6 : ¬ lg_cmp (zlw T x) (Int64.ofNat 379948) = 0 := fun q => v6 (c6.mp q)
  by_cases v7 : zV T x = 1831504
  · rw [if_neg v0, if_neg v1, if_neg v2, if_neg v3, if_neg v4, if_neg v5, if_neg v6, if_pos v7]
    have k7 := eq_true (c7.mpr v7)
    simp only [e190_0, e190_13, e190_19, e190_32, e190_38, e190_50, e190_56, e190_69, e190_76, e190_89, e190_96, e190_110, e190_117, e190_130, e190_137, e190_151, e190_155, t187_dock, t187_free, t187_dig, t187_make, t187_give, t187_still, t187_shed, t187_claim, zs1, zs2, List.cons_append, List.nil_append, k7, not_true_eq_false, if_false, k0, k1, k2, k3, k4, k5, k6, not_false_eq_true, if_true]
    rfl
  have k7 : ¬ lg_cmp (zlw T x) (Int64.ofNat 1831504) = 0 := fun q => v7 (c7.mp q)
  by_cases v8 : zV T x = 453701
  · rw [if_neg v0, if_neg v1, if_neg v2, if_neg v3, if_neg v4, if_neg v5, if_neg v6, if_neg v7, if_pos v8]
    have k8 := eq_true (c8.mpr v8)
    simp only [e190_0, e190_13, e190_19, e190_32, e190_38, e190_50, e190_56, e190_69, e190_76, e190_89, e190_96, e190_110, e190_117, e190_130, e190_137, e190_151, e190_158, e190_171, e190_175, t187_dock, t187_free, t187_dig, t187_make, t187_give, t187_still, t187_shed, t187_claim, t187_wait, zs1, zs2, List.cons_append, List.nil_append, k8, not_true_eq_false, if_false, k0, k1, k2, k3, k4, k5, k6, k7, not_false_eq_true, if_true]
    rfl
  have k8 : ¬ lg_cmp (zlw T x) (Int64.ofNat 453701) = 0 := fun q => v8 (c8.mp q)
  rw [if_neg v0, if_neg v1, if_neg v2, if_neg v3, if_neg v4, if_neg v5, if_neg v6, if_neg v7, if_neg v8]
  simp only [e190_0, e190_13, e190_19, e190_32, e190_38, e190_50, e190_56, e190_69, e190_76, e190_89, e190_96, e190_110, e190_117, e190_130, e190_137, e190_151, e190_158, e190_171, e190_178, t187_dock, t187_free, t187_dig, t187_make, t187_give, t187_still, t187_shed, t187_claim, t187_wait, zs1, zs2, List.cons_append, List.nil_append, not_false_eq_true, if_true, k0, k1, k2, k3, k4, k5, k6, k7, k8]
  rfl

