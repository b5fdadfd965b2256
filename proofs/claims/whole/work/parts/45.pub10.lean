/-! PAIRS OF CALLS (10), printed by wip/gen/pub10.py -/
theorem e111_41v (d : Nat) (Z : List (Nat × Nat)) (I : Nat → Nat → Int32) (P : Nat → Nat → Nat) (r0 : Nat) (x1 x2 x3 : Int32) (v4 : Value) : zR d 111 41 [.ref r0, .int x1, .int x2, .int x3, v4] [] (Z, I, P) = (if x2 ≤ x3 then zR d 111 92 [.ref r0, .int x1, .int x2, .int x3, v4] [] (Z, I, P) else zR d 111 46 [.ref r0, .int x1, .int x2, .int x3, v4] [] (Z, I, P)) := zE_br (g := true) (p := x2 ≤ x3) (t := 92) (f := 46) zK111 rfl zi111 23 3 rfl
theorem e159_43v (d : Nat) (Z : List (Nat × Nat)) (I : Nat → Nat → Int32) (P : Nat → Nat → Nat) (r0 : Nat) (x1 x2 x3 : Int32) (v4 : Value) : zR d 159 43 [.ref r0, .int x1, .int x2, .int x3, v4] [] (Z, I, P) = (if x2 ≤ x3 then zR d 159 100 [.ref r0, .int x1, .int x2, .int x3, v4] [] (Z, I, P) else zR d 159 48 [.ref r0, .int x1, .int x2, .int x3, v4] [] (Z, I, P)) := zE_br (g := true) (p := x2 ≤ x3) (t := 100) (f := 48) zK159 rfl zi159 27 3 rfl
/-- worth of rows k .. m-1 out of B -/
def zly (a : zGp) (B : Nat → Int32) (k m : Nat) : zGp := fun i f => if f = 9 ∧ k ≤ i ∧ i < m then (if 0 ≤ B i ∧ B i ≤ 999 then B i else 0) else a i f
theorem zly_0 (a : zGp) (B : Nat → Int32) (m : Nat) : zly a B m m = a := by
  funext i f
  exact if_neg (fun e => by omega)
theorem zly_st (a : zGp) (B : Nat → Int32) (k m : Nat) (h : k < m) (v : Int32) (hv : v = if 0 ≤ B k ∧ B k ≤ 999 then B k else 0) : zly (zup a k 9 v) B (k + 1) m = zly a B k m := by
  funext i f
  unfold zly zup
  by_cases h1 : f = 9 ∧ k + 1 ≤ i ∧ i < m
  · have e : f = 9 ∧ k ≤ i ∧ i < m := ⟨h1.1, by omega, h1.2.2⟩
    rw [if_pos h1, if_pos e]
  · rw [if_neg h1]
    by_cases h2 : i = k ∧ f = 9
    · have e : f = 9 ∧ k ≤ i ∧ i < m := ⟨h2.2, by omega, by omega⟩
      rw [if_pos h2, if_pos e, h2.1, hv]
    · rw [if_neg h2, if_neg]
      rintro ⟨e1, e2, e3⟩
      by_cases e : i = k
      · exact h2 ⟨e, e1⟩
      · exact h1 ⟨e1, by omega, e3⟩
theorem T111_0 (d L : Nat) (p0 p2 r2 r3 s4 n : Nat) (hn : n ≤ 8) : ∀ (m k : Nat) (C : zCt) (v4 : Value), k + m = n → zR (d + 1) 111 41 [.ref 1, .int (nI 0), .int (nI n), .int (nI k), v4] [] (zZ L, zI C, zPd p0 p2 r2 r3 s4) = some (some (.int (nI n)), (zZ L, zI (zcs C 2 (zly (C 2) (C 387 0) k n)), zPd p0 p2 r2 r3 s4)) := by
  intro m
  induction m with
  | zero =>
    intro k C v4 hk
    have hk : k = n := by omega
    subst hk
    rw [e111_41v, if_pos (Int32.le_refl _), e111_92, zly_0, zcs_self]
  | succ m ih =>
    intro k C v4 hk
    have hge : ¬ nI n ≤ nI k := nI_ge (by omega) (by omega)
    rw [e111_41v, if_neg hge]
    by_cases hv : 0 ≤ C 387 0 k ∧ C 387 0 k ≤ 999
    · simp +decide (disch := omega) only [e111_46, T107, e111_74, e111_77, e111_82, e111_83, zPd_186, hv, Nat.reduceAdd, zpre, ite_self, zs1, zs2, zs3, zI_eqb, and_self, not_true_eq_false, if_true, if_false, ite_true, ite_false, not_false_eq_true, zBP, zBZ, zisO, zisA, zlen, decide_true, decide_false, Bool.and_self, Bool.and_true, Bool.true_and, cond_true, cond_false, zBG, zBR, zBU, zBV, zinb_n, zix_n, zlA, zlB, zlM, zlN, zlX, zlI, nI_add, Nat.add_eq_zero_iff, false_and, and_false, and_true, true_and, true_or, or_true, false_or, or_false, zbool_i, zb0, zb1, zshp_0, zcs_eq, zcs_n, zcs_cs, zup_g, zup_n, zp2_sun, zp2_rock, zp2_tug, zp2_contract, zp2_window, zp2_code, zp2_rbody, zp2_rstock, zp2_tfree, zp2_thold, zp2_tknown, zp2_ccells, zsh2_sun, zsh2_rock, zsh2_body, zsh2_stock, zsh2_tug, zsh2_free, zsh2_hold, zsh2_known, zsh2_contract, zsh2_window, zsh2_code, zsh2_cells, zg_nsun0, zg_nsun1, zg_nsun2, zg_nrock0, zg_nrock1, zg_nrock2, zg_nrock3, zg_nrock4, zg_nrock5, zg_nrock6, zg_nrock7, zg_nrock8, zg_nrock9, zg_nrock10, zg_nrock11, zg_nrock12, zg_nrock13, zg_nrock14, zg_ntug0, zg_ntug1, zg_ntug2, zg_ntug3, zg_ntug4, zg_ntug5, zg_ntug6, zg_ntug7, zg_ntug8, zg_ntug9, zg_ntug10, zg_ntug11, zg_ntug12, zg_ntug13, zg_ntug14, zg_ntug15, zg_ntug17, zg_ntug18, zg_ntug19, zg_ntug20, zg_ntug21, zg_ntug22, zg_ncon0, zg_ncon1, zg_ncon2, zg_ncon3, zg_ncon4, zg_ncon5, zg_ncon6, zg_nwin0, zg_nwin1, zg_nwin2, zg_nwin3, zg_nwin4, zg_nwin5, zg_ncode0, zg_ncode1, zg_ncode3, zg_nrule, zg_nstock, zg_nhold, zg_nknown, zg_nord, zg_nrep, zg_ncla, zg_ntou, zg_ncel, zu_nsun0, zu_nsun1, zu_nsun2, zu_nrock0, zu_nrock1, zu_nrock2, zu_nrock3, zu_nrock4, zu_nrock5, zu_nrock6, zu_nrock7, zu_nrock8, zu_nrock9, zu_nrock10, zu_nrock11, zu_nrock12, zu_nrock13, zu_nrock14, zu_ntug0, zu_ntug1, zu_ntug2, zu_ntug3, zu_ntug4, zu_ntug5, zu_ntug6, zu_ntug7, zu_ntug8, zu_ntug9, zu_ntug10, zu_ntug11, zu_ntug12, zu_ntug13, zu_ntug14, zu_ntug15, zu_ntug17, zu_ntug18, zu_ntug19, zu_ntug20, zu_ntug21, zu_ntug22, zu_ncon0, zu_ncon1, zu_ncon2, zu_ncon3, zu_ncon4, zu_ncon5, zu_ncon6, zu_nwin0, zu_nwin1, zu_nwin2, zu_nwin3, zu_nwin4, zu_nwin5, zu_ncode3, zu_nrule, zu_nstock, zu_nhold, zu_nknown, zu_nord, zu_nrep, zu_ncla, zu_ntou, zu_ncel]
      rw [ih _ _ _ (by omega)]
      simp (disch := omega) only [zcs_eq, zcs_cs, zcs_n]
      rw [zly_st _ _ _ _ (by omega) _ (if_pos hv).symm]
    · simp +decide (disch := omega) only [e111_46, T107, e111_74, e111_77, e111_82, e111_83, zPd_186, hv, Nat.reduceAdd, zpre, ite_self, zs1, zs2, zs3, zI_eqb, and_self, not_true_eq_false, if_true, if_false, ite_true, ite_false, not_false_eq_true, zBP, zBZ, zisO, zisA, zlen, decide_true, decide_false, Bool.and_self, Bool.and_true, Bool.true_and, cond_true, cond_false, zBG, zBR, zBU, zBV, zinb_n, zix_n, zlA, zlB, zlM, zlN, zlX, zlI, nI_add, Nat.add_eq_zero_iff, false_and, and_false, and_true, true_and, true_or, or_true, false_or, or_false, zbool_i, zb0, zb1, zshp_0, zcs_eq, zcs_n, zcs_cs, zup_g, zup_n, zp2_sun, zp2_rock, zp2_tug, zp2_contract, zp2_window, zp2_code, zp2_rbody, zp2_rstock, zp2_tfree, zp2_thold, zp2_tknown, zp2_ccells, zsh2_sun, zsh2_rock, zsh2_body, zsh2_stock, zsh2_tug, zsh2_free, zsh2_hold, zsh2_known, zsh2_contract, zsh2_window, zsh2_code, zsh2_cells, zg_nsun0, zg_nsun1, zg_nsun2, zg_nrock0, zg_nrock1, zg_nrock2, zg_nrock3, zg_nrock4, zg_nrock5, zg_nrock6, zg_nrock7, zg_nrock8, zg_nrock9, zg_nrock10, zg_nrock11, zg_nrock12, zg_nrock13, zg_nrock14, zg_ntug0, zg_ntug1, zg_ntug2, zg_ntug3, zg_ntug4, zg_ntug5, zg_ntug6, zg_ntug7, zg_ntug8, zg_ntug9, zg_ntug10, zg_ntug11, zg_ntug12, zg_ntug13, zg_ntug14, zg_ntug15, zg_ntug17, zg_ntug18, zg_ntug19, zg_ntug20, zg_ntug21, zg_ntug22, zg_ncon0, zg_ncon1, zg_ncon2, zg_ncon3, zg_ncon4, zg_ncon5, zg_ncon6, zg_nwin0, zg_nwin1, zg_nwin2, zg_nwin3, zg_nwin4, zg_nwin5, zg_ncode0, zg_ncode1, zg_ncode3, zg_nrule, zg_nstock, zg_nhold, zg_nknown, zg_nord, zg_nrep, zg_ncla, zg_ntou, zg_ncel, zu_nsun0, zu_nsun1, zu_nsun2, zu_nrock0, zu_nrock1, zu_nrock2, zu_nrock3, zu_nrock4, zu_nrock5, zu_nrock6, zu_nrock7, zu_nrock8, zu_nrock9, zu_nrock10, zu_nrock11, zu_nrock12, zu_nrock13, zu_nrock14, zu_ntug0, zu_ntug1, zu_ntug2, zu_ntug3, zu_ntug4, zu_ntug5, zu_ntug6, zu_ntug7, zu_ntug8, zu_ntug9, zu_ntug10, zu_ntug11, zu_ntug12, zu_ntug13, zu_ntug14, zu_ntug15, zu_ntug17, zu_ntug18, zu_ntug19, zu_ntug20, zu_ntug21, zu_ntug22, zu_ncon0, zu_ncon1, zu_ncon2, zu_ncon3, zu_ncon4, zu_ncon5, zu_ncon6, zu_nwin0, zu_nwin1, zu_nwin2, zu_nwin3, zu_nwin4, zu_nwin5, zu_ncode3, zu_nrule, zu_nstock, zu_nhold, zu_nknown, zu_nord, zu_nrep, zu_ncla, zu_ntou, zu_ncel]
      rw [ih _ _ _ (by omega)]
      simp (disch := omega) only [zcs_eq, zcs_cs, zcs_n]
      rw [zly_st _ _ _ _ (by omega) _ (if_neg hv).symm]
theorem T159_0 (d L : Nat) (p0 p2 r2 r3 s4 n : Nat) (hn : n ≤ 8) : ∀ (m k : Nat) (C : zCt) (v4 : Value), k + m = n → zR (d + 1) 159 43 [.ref 201, .int (nI 0), .int (nI n), .int (nI k), v4] [] (zZ L, zI C, zPd p0 p2 r2 r3 s4) = some (some (.int (nI n)), (zZ L, zI (zcs C 42 (zly (C 42) (fun i => C 420 0 (0 + i)) k n)), zPd p0 p2 r2 r3 s4)) := by
  intro m
  induction m with
  | zero =>
    intro k C v4 hk
    have hk : k = n := by omega
    subst hk
    rw [e159_43v, if_pos (Int32.le_refl _), e159_100, zly_0, zcs_self]
  | succ m ih =>
    intro k C v4 hk
    have hge : ¬ nI n ≤ nI k := nI_ge (by omega) (by omega)
    rw [e159_43v, if_neg hge]
    by_cases hv : 0 ≤ C 420 0 (0 + k) ∧ C 420 0 (0 + k) ≤ 999
    · simp +decide (disch := omega) only [e159_48, T154, e159_84, e159_87, e159_92, e159_93, hv, Nat.reduceMul, zpre, ite_self, Nat.reduceAdd, zs1, zs2, zs3, zI_eqb, and_self, not_true_eq_false, if_true, if_false, ite_true, ite_false, not_false_eq_true, zBP, zBZ, zisO, zisA, zlen, decide_true, decide_false, Bool.and_self, Bool.and_true, Bool.true_and, cond_true, cond_false, zBG, zBR, zBU, zBV, zinb_n, zix_n, zlA, zlB, zlM, zlN, zlX, zlI, nI_add, Nat.add_eq_zero_iff, false_and, and_false, and_true, true_and, true_or, or_true, false_or, or_false, zbool_i, zb0, zb1, zshp_0, zcs_eq, zcs_n, zcs_cs, zup_g, zup_n, zg_srock2, zg_stug2, zg_ssun, zg_ssun0, zg_srock, zg_srock0, zg_stug, zg_stug0, zg_sord, zg_sord0, zg_srep, zg_srep0, zg_scla, zg_scla0, zg_scon, zg_scon0, zg_swin, zg_swin0, zg_sleg, zg_sleg0, zg_spro, zg_sstp, zg_swrd, zu_srock2, zu_stug2, zu_ssun, zu_ssun0, zu_srock, zu_srock0, zu_stug, zu_stug0, zu_sord, zu_sord0, zu_srep, zu_srep0, zu_scla, zu_scla0, zu_scon, zu_scon0, zu_swin, zu_swin0, zu_sleg, zu_sleg0, zu_spro, zu_sstp, zu_swrd]
      rw [ih _ _ _ (by omega)]
      simp (disch := omega) only [zcs_eq, zcs_cs, zcs_n]
      rw [zly_st _ (fun i => C 420 0 (0 + i)) _ _ (by omega) _ (if_pos hv).symm]
    · simp +decide (disch := omega) only [e159_48, T154, e159_84, e159_87, e159_92, e159_93, hv, Nat.reduceMul, zpre, ite_self, Nat.reduceAdd, zs1, zs2, zs3, zI_eqb, and_self, not_true_eq_false, if_true, if_false, ite_true, ite_false, not_false_eq_true, zBP, zBZ, zisO, zisA, zlen, decide_true, decide_false, Bool.and_self, Bool.and_true, Bool.true_and, cond_true, cond_false, zBG, zBR, zBU, zBV, zinb_n, zix_n, zlA, zlB, zlM, zlN, zlX, zlI, nI_add, Nat.add_eq_zero_iff, false_and, and_false, and_true, true_and, true_or, or_true, false_or, or_false, zbool_i, zb0, zb1, zshp_0, zcs_eq, zcs_n, zcs_cs, zup_g, zup_n, zg_srock2, zg_stug2, zg_ssun, zg_ssun0, zg_srock, zg_srock0, zg_stug, zg_stug0, zg_sord, zg_sord0, zg_srep, zg_srep0, zg_scla, zg_scla0, zg_scon, zg_scon0, zg_swin, zg_swin0, zg_sleg, zg_sleg0, zg_spro, zg_sstp, zg_swrd, zu_srock2, zu_stug2, zu_ssun, zu_ssun0, zu_srock, zu_srock0, zu_stug, zu_stug0, zu_sord, zu_sord0, zu_srep, zu_srep0, zu_scla, zu_scla0, zu_scon, zu_scon0, zu_swin, zu_swin0, zu_sleg, zu_sleg0, zu_spro, zu_sstp, zu_swrd]
      rw [ih _ _ _ (by omega)]
      simp (disch := omega) only [zcs_eq, zcs_cs, zcs_n]
      rw [zly_st _ (fun i => C 420 0 (0 + i)) _ _ (by omega) _ (if_neg hv).symm]
theorem T111_1 (d L : Nat) (p0 p2 r2 r3 s4 n : Nat) (hn : n ≤ 8) : ∀ (m k : Nat) (C : zCt) (v4 : Value), k + m = n → zR (d + 1) 111 41 [.ref 1, .int (nI 1), .int (nI n), .int (nI k), v4] [] (zZ L, zI C, zPd p0 p2 r2 r3 s4) = some (some (.int (nI n)), (zZ L, zI (zcs C 2 (zly (C 2) (C 388 0) k n)), zPd p0 p2 r2 r3 s4)) := by
  intro m
  induction m with
  | zero =>
    intro k C v4 hk
    have hk : k = n := by omega
    subst hk
    rw [e111_41v, if_pos (Int32.le_refl _), e111_92, zly_0, zcs_self]
  | succ m ih =>
    intro k C v4 hk
    have hge : ¬ nI n ≤ nI k := nI_ge (by omega) (by omega)
    rw [e111_41v, if_neg hge]
    by_cases hv : 0 ≤ C 388 0 k ∧ C 388 0 k ≤ 999
    · simp +decide (disch := omega) only [e111_46, T107, e111_74, e111_77, e111_82, e111_83, zPd_186, hv, Nat.reduceAdd, zpre, ite_self, zs1, zs2, zs3, zI_eqb, and_self, not_true_eq_false, if_true, if_false, ite_true, ite_false, not_false_eq_true, zBP, zBZ, zisO, zisA, zlen, decide_true, decide_false, Bool.and_self, Bool.and_true, Bool.true_and, cond_true, cond_false, zBG, zBR, zBU, zBV, zinb_n, zix_n, zlA, zlB, zlM, zlN, zlX, zlI, nI_add, Nat.add_eq_zero_iff, false_and, and_false, and_true, true_and, true_or, or_true, false_or, or_false, zbool_i, zb0, zb1, zshp_0, zcs_eq, zcs_n, zcs_cs, zup_g, zup_n, zp2_sun, zp2_rock, zp2_tug, zp2_contract, zp2_window, zp2_code, zp2_rbody, zp2_rstock, zp2_tfree, zp2_thold, zp2_tknown, zp2_ccells, zsh2_sun, zsh2_rock, zsh2_body, zsh2_stock, zsh2_tug, zsh2_free, zsh2_hold, zsh2_known, zsh2_contract, zsh2_window, zsh2_code, zsh2_cells, zg_nsun0, zg_nsun1, zg_nsun2, zg_nrock0, zg_nrock1, zg_nrock2, zg_nrock3, zg_nrock4, zg_nrock5, zg_nrock6, zg_nrock7, zg_nrock8, zg_nrock9, zg_nrock10, zg_nrock11, zg_nrock12, zg_nrock13, zg_nrock14, zg_ntug0, zg_ntug1, zg_ntug2, zg_ntug3, zg_ntug4, zg_ntug5, zg_ntug6, zg_ntug7, zg_ntug8, zg_ntug9, zg_ntug10, zg_ntug11, zg_ntug12, zg_ntug13, zg_ntug14, zg_ntug15, zg_ntug17, zg_ntug18, zg_ntug19, zg_ntug20, zg_ntug21, zg_ntug22, zg_ncon0, zg_ncon1, zg_ncon2, zg_ncon3, zg_ncon4, zg_ncon5, zg_ncon6, zg_nwin0, zg_nwin1, zg_nwin2, zg_nwin3, zg_nwin4, zg_nwin5, zg_ncode0, zg_ncode1, zg_ncode3, zg_nrule, zg_nstock, zg_nhold, zg_nknown, zg_nord, zg_nrep, zg_ncla, zg_ntou, zg_ncel, zu_nsun0, zu_nsun1, zu_nsun2, zu_nrock0, zu_nrock1, zu_nrock2, zu_nrock3, zu_nrock4, zu_nrock5, zu_nrock6, zu_nrock7, zu_nrock8, zu_nrock9, zu_nrock10, zu_nrock11, zu_nrock12, zu_nrock13, zu_nrock14, zu_ntug0, zu_ntug1, zu_ntug2, zu_ntug3, zu_ntug4, zu_ntug5, zu_ntug6, zu_ntug7, zu_ntug8, zu_ntug9, zu_ntug10, zu_ntug11, zu_ntug12, zu_ntug13, zu_ntug14, zu_ntug15, zu_ntug17, zu_ntug18, zu_ntug19, zu_ntug20, zu_ntug21, zu_ntug22, zu_ncon0, zu_ncon1, zu_ncon2, zu_ncon3, zu_ncon4, zu_ncon5, zu_ncon6, zu_nwin0, zu_nwin1, zu_nwin2, zu_nwin3, zu_nwin4, zu_nwin5, zu_ncode3, zu_nrule, zu_nstock, zu_nhold, zu_nknown, zu_nord, zu_nrep, zu_ncla, zu_ntou, zu_ncel]
      rw [ih _ _ _ (by omega)]
      simp (disch := omega) only [zcs_eq, zcs_cs, zcs_n]
      rw [zly_st _ _ _ _ (by omega) _ (if_pos hv).symm]
    · simp +decide (disch := omega) only [e111_46, T107, e111_74, e111_77, e111_82, e111_83, zPd_186, hv, Nat.reduceAdd, zpre, ite_self, zs1, zs2, zs3, zI_eqb, and_self, not_true_eq_false, if_true, if_false, ite_true, ite_false, not_false_eq_true, zBP, zBZ, zisO, zisA, zlen, decide_true, decide_false, Bool.and_self, Bool.and_true, Bool.true_and, cond_true, cond_false, zBG, zBR, zBU, zBV, zinb_n, zix_n, zlA, zlB, zlM, zlN, zlX, zlI, nI_add, Nat.add_eq_zero_iff, false_and, and_false, and_true, true_and, true_or, or_true, false_or, or_false, zbool_i, zb0, zb1, zshp_0, zcs_eq, zcs_n, zcs_cs, zup_g, zup_n, zp2_sun, zp2_rock, zp2_tug, zp2_contract, zp2_window, zp2_code, zp2_rbody, zp2_rstock, zp2_tfree, zp2_thold, zp2_tknown, zp2_ccells, zsh2_sun, zsh2_rock, zsh2_body, zsh2_stock, zsh2_tug, zsh2_free, zsh2_hold, zsh2_known, zsh2_contract, zsh2_window, zsh2_code, zsh2_cells, zg_nsun0, zg_nsun1, zg_nsun2, zg_nrock0, zg_nrock1, zg_nrock2, zg_nrock3, zg_nrock4, zg_nrock5, zg_nrock6, zg_nrock7, zg_nrock8, zg_nrock9, zg_nrock10, zg_nrock11, zg_nrock12, zg_nrock13, zg_nrock14, zg_ntug0, zg_ntug1, zg_ntug2, zg_ntug3, zg_ntug4, zg_ntug5, zg_ntug6, zg_ntug7, zg_ntug8, zg_ntug9, zg_ntug10, zg_ntug11, zg_ntug12, zg_ntug13, zg_ntug14, zg_ntug15, zg_ntug17, zg_ntug18, zg_ntug19, zg_ntug20, zg_ntug21, zg_ntug22, zg_ncon0, zg_ncon1, zg_ncon2, zg_ncon3, zg_ncon4, zg_ncon5, zg_ncon6, zg_nwin0, zg_nwin1, zg_nwin2, zg_nwin3, zg_nwin4, zg_nwin5, zg_ncode0, zg_ncode1, zg_ncode3, zg_nrule, zg_nstock, zg_nhold, zg_nknown, zg_nord, zg_nrep, zg_ncla, zg_ntou, zg_ncel, zu_nsun0, zu_nsun1, zu_nsun2, zu_nrock0, zu_nrock1, zu_nrock2, zu_nrock3, zu_nrock4, zu_nrock5, zu_nrock6, zu_nrock7, zu_nrock8, zu_nrock9, zu_nrock10, zu_nrock11, zu_nrock12, zu_nrock13, zu_nrock14, zu_ntug0, zu_ntug1, zu_ntug2, zu_ntug3, zu_ntug4, zu_ntug5, zu_ntug6, zu_ntug7, zu_ntug8, zu_ntug9, zu_ntug10, zu_ntug11, zu_ntug12, zu_ntug13, zu_ntug14, zu_ntug15, zu_ntug17, zu_ntug18, zu_ntug19, zu_ntug20, zu_ntug21, zu_ntug22, zu_ncon0, zu_ncon1, zu_ncon2, zu_ncon3, zu_ncon4, zu_ncon5, zu_ncon6, zu_nwin0, zu_nwin1, zu_nwin2, zu_nwin3, zu_nwin4, zu_nwin5, zu_ncode3, zu_nrule, zu_nstock, zu_nhold, zu_nknown, zu_nord, zu_nrep, zu_ncla, zu_ntou, zu_ncel]
      rw [ih _ _ _ (by omega)]
      simp (disch := omega) only [zcs_eq, zcs_cs, zcs_n]
      rw [zly_st _ _ _ _ (by omega) _ (if_neg hv).symm]
theorem T159_1 (d L : Nat) (p0 p2 r2 r3 s4 n : Nat) (hn : n ≤ 8) : ∀ (m k : Nat) (C : zCt) (v4 : Value), k + m = n → zR (d + 1) 159 43 [.ref 201, .int (nI 1), .int (nI n), .int (nI k), v4] [] (zZ L, zI C, zPd p0 p2 r2 r3 s4) = some (some (.int (nI n)), (zZ L, zI (zcs C 42 (zly (C 42) (fun i => C 420 0 (40 + i)) k n)), zPd p0 p2 r2 r3 s4)) := by
  intro m
  induction m with
  | zero =>
    intro k C v4 hk
    have hk : k = n := by omega
    subst hk
    rw [e159_43v, if_pos (Int32.le_refl _), e159_100, zly_0, zcs_self]
  | succ m ih =>
    intro k C v4 hk
    have hge : ¬ nI n ≤ nI k := nI_ge (by omega) (by omega)
    rw [e159_43v, if_neg hge]
    by_cases hv : 0 ≤ C 420 0 (40 + k) ∧ C 420 0 (40 + k) ≤ 999
    · simp +decide (disch := omega) only [e159_48, T154, e159_84, e159_87, e159_92, e159_93, hv, Nat.reduceMul, zpre, ite_self, Nat.reduceAdd, zs1, zs2, zs3, zI_eqb, and_self, not_true_eq_false, if_true, if_false, ite_true, ite_false, not_false_eq_true, zBP, zBZ, zisO, zisA, zlen, decide_true, decide_false, Bool.and_self, Bool.and_true, Bool.true_and, cond_true, cond_false, zBG, zBR, zBU, zBV, zinb_n, zix_n, zlA, zlB, zlM, zlN, zlX, zlI, nI_add, Nat.add_eq_zero_iff, false_and, and_false, and_true, true_and, true_or, or_true, false_or, or_false, zbool_i, zb0, zb1, zshp_0, zcs_eq, zcs_n, zcs_cs, zup_g, zup_n, zg_srock2, zg_stug2, zg_ssun, zg_ssun0, zg_srock, zg_srock0, zg_stug, zg_stug0, zg_sord, zg_sord0, zg_srep, zg_srep0, zg_scla, zg_scla0, zg_scon, zg_scon0, zg_swin, zg_swin0, zg_sleg, zg_sleg0, zg_spro, zg_sstp, zg_swrd, zu_srock2, zu_stug2, zu_ssun, zu_ssun0, zu_srock, zu_srock0, zu_stug, zu_stug0, zu_sord, zu_sord0, zu_srep, zu_srep0, zu_scla, zu_scla0, zu_scon, zu_scon0, zu_swin, zu_swin0, zu_sleg, zu_sleg0, zu_spro, zu_sstp, zu_swrd]
      rw [ih _ _ _ (by omega)]
      simp (disch := omega) only [zcs_eq, zcs_cs, zcs_n]
      rw [zly_st _ (fun i => C 420 0 (40 + i)) _ _ (by omega) _ (if_pos hv).symm]
    · simp +decide (disch := omega) only [e159_48, T154, e159_84, e159_87, e159_92, e159_93, hv, Nat.reduceMul, zpre, ite_self, Nat.reduceAdd, zs1, zs2, zs3, zI_eqb, and_self, not_true_eq_false, if_true, if_false, ite_true, ite_false, not_false_eq_true, zBP, zBZ, zisO, zisA, zlen, decide_true, decide_false, Bool.and_self, Bool.and_true, Bool.true_and, cond_true, cond_false, zBG, zBR, zBU, zBV, zinb_n, zix_n, zlA, zlB, zlM, zlN, zlX, zlI, nI_add, Nat.add_eq_zero_iff, false_and, and_false, and_true, true_and, true_or, or_true, false_or, or_false, zbool_i, zb0, zb1, zshp_0, zcs_eq, zcs_n, zcs_cs, zup_g, zup_n, zg_srock2, zg_stug2, zg_ssun, zg_ssun0, zg_srock, zg_srock0, zg_stug, zg_stug0, zg_sord, zg_sord0, zg_srep, zg_srep0, zg_scla, zg_scla0, zg_scon, zg_scon0, zg_swin, zg_swin0, zg_sleg, zg_sleg0, zg_spro, zg_sstp, zg_swrd, zu_srock2, zu_stug2, zu_ssun, zu_ssun0, zu_srock, zu_srock0, zu_stug, zu_stug0, zu_sord, zu_sord0, zu_srep, zu_srep0, zu_scla, zu_scla0, zu_scon, zu_scon0, zu_swin, zu_swin0, zu_sleg, zu_sleg0, zu_spro, zu_sstp, zu_swrd]
      rw [ih _ _ _ (by omega)]
      simp (disch := omega) only [zcs_eq, zcs_cs, zcs_n]
      rw [zly_st _ (fun i => C 420 0 (40 + i)) _ _ (by omega) _ (if_neg hv).symm]
theorem pr_lay (d L : Nat) (C : zCt) (hR : zRep C) (s : Int32) : zPair d 111 159 [.ref 1, .int s, zmk, zmk, zmk] [.ref 201, .int s, zmk, zmk, zmk] L C := by
  obtain ⟨⟨w, hG, hS, hRR, hT, hO, hE, hC, hK, hW, hL, hP⟩, hX⟩ := id hR
  have hGe := zRG_e hG
  rintro ⟨p0, p2, r2, r3, s4⟩
  obtain ⟨n, hn8, hn⟩ := hG.2.2.2.2.2.2.1
  by_cases h2 : 0 ≤ s ∧ s ≤ 1
  case neg =>
    simp +decide (disch := omega) only [e111_0, e111_4, e111_7, e111_10, e111_19, e111_22, e111_74, e111_77, e111_82, e111_83, e111_92, T112, T107, hGe, hn, h2, zpre, ite_self, zs1, zs2, zs3, zI_eqb, and_self, not_true_eq_false, if_true, if_false, ite_true, ite_false, not_false_eq_true, zBP, zBZ, zisO, zisA, zlen, decide_true, decide_false, Bool.and_self, Bool.and_true, Bool.true_and, cond_true, cond_false, zBG, zBR, zBU, zBV, zinb_n, zix_n, zlA, zlB, zlM, zlN, zlX, zlI, nI_add, Nat.add_eq_zero_iff, false_and, and_false, and_true, true_and, true_or, or_true, false_or, or_false, zbool_i, zb0, zb1, zshp_0, zcs_eq, zcs_n, zcs_cs, zup_g, zup_n, zp2_sun, zp2_rock, zp2_tug, zp2_contract, zp2_window, zp2_code, zp2_rbody, zp2_rstock, zp2_tfree, zp2_thold, zp2_tknown, zp2_ccells, zsh2_sun, zsh2_rock, zsh2_body, zsh2_stock, zsh2_tug, zsh2_free, zsh2_hold, zsh2_known, zsh2_contract, zsh2_window, zsh2_code, zsh2_cells, zg_nsun0, zg_nsun1, zg_nsun2, zg_nrock0, zg_nrock1, zg_nrock2, zg_nrock3, zg_nrock4, zg_nrock5, zg_nrock6, zg_nrock7, zg_nrock8, zg_nrock9, zg_nrock10, zg_nrock11, zg_nrock12, zg_nrock13, zg_nrock14, zg_ntug0, zg_ntug1, zg_ntug2, zg_ntug3, zg_ntug4, zg_ntug5, zg_ntug6, zg_ntug7, zg_ntug8, zg_ntug9, zg_ntug10, zg_ntug11, zg_ntug12, zg_ntug13, zg_ntug14, zg_ntug15, zg_ntug17, zg_ntug18, zg_ntug19, zg_ntug20, zg_ntug21, zg_ntug22, zg_ncon0, zg_ncon1, zg_ncon2, zg_ncon3, zg_ncon4, zg_ncon5, zg_ncon6, zg_nwin0, zg_nwin1, zg_nwin2, zg_nwin3, zg_nwin4, zg_nwin5, zg_ncode0, zg_ncode1, zg_ncode3, zg_nrule, zg_nstock, zg_nhold, zg_nknown, zg_nord, zg_nrep, zg_ncla, zg_ntou, zg_ncel, zu_nsun0, zu_nsun1, zu_nsun2, zu_nrock0, zu_nrock1, zu_nrock2, zu_nrock3, zu_nrock4, zu_nrock5, zu_nrock6, zu_nrock7, zu_nrock8, zu_nrock9, zu_nrock10, zu_nrock11, zu_nrock12, zu_nrock13, zu_nrock14, zu_ntug0, zu_ntug1, zu_ntug2, zu_ntug3, zu_ntug4, zu_ntug5, zu_ntug6, zu_ntug7, zu_ntug8, zu_ntug9, zu_ntug10, zu_ntug11, zu_ntug12, zu_ntug13, zu_ntug14, zu_ntug15, zu_ntug17, zu_ntug18, zu_ntug19, zu_ntug20, zu_ntug21, zu_ntug22, zu_ncon0, zu_ncon1, zu_ncon2, zu_ncon3, zu_ncon4, zu_ncon5, zu_ncon6, zu_nwin0, zu_nwin1, zu_nwin2, zu_nwin3, zu_nwin4, zu_nwin5, zu_ncode3, zu_nrule, zu_nstock, zu_nhold, zu_nknown, zu_nord, zu_nrep, zu_ncla, zu_ntou, zu_ncel]
    refine ⟨_, _, (p0, p2, r2, r3, s4), rfl, ?_⟩
    simp +decide (disch := omega) only [e159_0, e159_6, e159_9, e159_12, e159_22, e159_25, e159_40, e159_84, e159_87, e159_92, e159_93, e159_100, T154, e160_0, e160_5, e160_9, e160_10, hn, h2, zpre, ite_self, Nat.reduceAdd, zs1, zs2, zs3, zI_eqb, and_self, not_true_eq_false, if_true, if_false, ite_true, ite_false, not_false_eq_true, zBP, zBZ, zisO, zisA, zlen, decide_true, decide_false, Bool.and_self, Bool.and_true, Bool.true_and, cond_true, cond_false, zBG, zBR, zBU, zBV, zinb_n, zix_n, zlA, zlB, zlM, zlN, zlX, zlI, nI_add, Nat.add_eq_zero_iff, false_and, and_false, and_true, true_and, true_or, or_true, false_or, or_false, zbool_i, zb0, zb1, zshp_0, zcs_eq, zcs_n, zcs_cs, zup_g, zup_n, zg_srock2, zg_stug2, zg_ssun, zg_ssun0, zg_srock, zg_srock0, zg_stug, zg_stug0, zg_sord, zg_sord0, zg_srep, zg_srep0, zg_scla, zg_scla0, zg_scon, zg_scon0, zg_swin, zg_swin0, zg_sleg, zg_sleg0, zg_spro, zg_sstp, zg_swrd, zu_srock2, zu_stug2, zu_ssun, zu_ssun0, zu_srock, zu_srock0, zu_stug, zu_stug0, zu_sord, zu_sord0, zu_srep, zu_srep0, zu_scla, zu_scla0, zu_scon, zu_scon0, zu_swin, zu_swin0, zu_sleg, zu_sleg0, zu_spro, zu_sstp, zu_swrd]
    exact ⟨_, rfl, hR, rfl⟩
  obtain ⟨hIm, hKe, hK01, hTp, hWt, hH0, hH1⟩ := id hX
  obtain ⟨s, hs, rfl⟩ := zrng (n := 1) h2 (by decide)
  rcases (show s = 0 ∨ s = 1 by omega) with rfl | rfl
  · obtain ⟨he, hv, hsh⟩ := id hH0
    rcases hv with hv | ⟨q, hq40, hv, hA⟩
    · simp +decide (disch := omega) only [e111_0, e111_4, e111_7, e111_10, e111_19, e111_22, e111_74, e111_77, e111_82, e111_83, e111_92, T112, T107, hGe, hn, h2, he, hv, zpre, ite_self, zs1, zs2, zs3, zI_eqb, and_self, not_true_eq_false, if_true, if_false, ite_true, ite_false, not_false_eq_true, zBP, zBZ, zisO, zisA, zlen, decide_true, decide_false, Bool.and_self, Bool.and_true, Bool.true_and, cond_true, cond_false, zBG, zBR, zBU, zBV, zinb_n, zix_n, zlA, zlB, zlM, zlN, zlX, zlI, nI_add, Nat.add_eq_zero_iff, false_and, and_false, and_true, true_and, true_or, or_true, false_or, or_false, zbool_i, zb0, zb1, zshp_0, zcs_eq, zcs_n, zcs_cs, zup_g, zup_n, zp2_sun, zp2_rock, zp2_tug, zp2_contract, zp2_window, zp2_code, zp2_rbody, zp2_rstock, zp2_tfree, zp2_thold, zp2_tknown, zp2_ccells, zsh2_sun, zsh2_rock, zsh2_body, zsh2_stock, zsh2_tug, zsh2_free, zsh2_hold, zsh2_known, zsh2_contract, zsh2_window, zsh2_code, zsh2_cells, zg_nsun0, zg_nsun1, zg_nsun2, zg_nrock0, zg_nrock1, zg_nrock2, zg_nrock3, zg_nrock4, zg_nrock5, zg_nrock6, zg_nrock7, zg_nrock8, zg_nrock9, zg_nrock10, zg_nrock11, zg_nrock12, zg_nrock13, zg_nrock14, zg_ntug0, zg_ntug1, zg_ntug2, zg_ntug3, zg_ntug4, zg_ntug5, zg_ntug6, zg_ntug7, zg_ntug8, zg_ntug9, zg_ntug10, zg_ntug11, zg_ntug12, zg_ntug13, zg_ntug14, zg_ntug15, zg_ntug17, zg_ntug18, zg_ntug19, zg_ntug20, zg_ntug21, zg_ntug22, zg_ncon0, zg_ncon1, zg_ncon2, zg_ncon3, zg_ncon4, zg_ncon5, zg_ncon6, zg_nwin0, zg_nwin1, zg_nwin2, zg_nwin3, zg_nwin4, zg_nwin5, zg_ncode0, zg_ncode1, zg_ncode3, zg_nrule, zg_nstock, zg_nhold, zg_nknown, zg_nord, zg_nrep, zg_ncla, zg_ntou, zg_ncel, zu_nsun0, zu_nsun1, zu_nsun2, zu_nrock0, zu_nrock1, zu_nrock2, zu_nrock3, zu_nrock4, zu_nrock5, zu_nrock6, zu_nrock7, zu_nrock8, zu_nrock9, zu_nrock10, zu_nrock11, zu_nrock12, zu_nrock13, zu_nrock14, zu_ntug0, zu_ntug1, zu_ntug2, zu_ntug3, zu_ntug4, zu_ntug5, zu_ntug6, zu_ntug7, zu_ntug8, zu_ntug9, zu_ntug10, zu_ntug11, zu_ntug12, zu_ntug13, zu_ntug14, zu_ntug15, zu_ntug17, zu_ntug18, zu_ntug19, zu_ntug20, zu_ntug21, zu_ntug22, zu_ncon0, zu_ncon1, zu_ncon2, zu_ncon3, zu_ncon4, zu_ncon5, zu_ncon6, zu_nwin0, zu_nwin1, zu_nwin2, zu_nwin3, zu_nwin4, zu_nwin5, zu_ncode3, zu_nrule, zu_nstock, zu_nhold, zu_nknown, zu_nord, zu_nrep, zu_ncla, zu_ntou, zu_ncel]
      refine ⟨_, _, (p0, p2, r2, r3, s4), rfl, ?_⟩
      simp +decide (disch := omega) only [e159_0, e159_6, e159_9, e159_12, e159_22, e159_25, e159_40, e159_84, e159_87, e159_92, e159_93, e159_100, T154, e160_0, e160_5, e160_9, e160_10, hn, h2, hv, zpre, ite_self, Nat.reduceAdd, zs1, zs2, zs3, zI_eqb, and_self, not_true_eq_false, if_true, if_false, ite_true, ite_false, not_false_eq_true, zBP, zBZ, zisO, zisA, zlen, decide_true, decide_false, Bool.and_self, Bool.and_true, Bool.true_and, cond_true, cond_false, zBG, zBR, zBU, zBV, zinb_n, zix_n, zlA, zlB, zlM, zlN, zlX, zlI, nI_add, Nat.add_eq_zero_iff, false_and, and_false, and_true, true_and, true_or, or_true, false_or, or_false, zbool_i, zb0, zb1, zshp_0, zcs_eq, zcs_n, zcs_cs, zup_g, zup_n, zg_srock2, zg_stug2, zg_ssun, zg_ssun0, zg_srock, zg_srock0, zg_stug, zg_stug0, zg_sord, zg_sord0, zg_srep, zg_srep0, zg_scla, zg_scla0, zg_scon, zg_scon0, zg_swin, zg_swin0, zg_sleg, zg_sleg0, zg_spro, zg_sstp, zg_swrd, zu_srock2, zu_stug2, zu_ssun, zu_ssun0, zu_srock, zu_srock0, zu_stug, zu_stug0, zu_sord, zu_sord0, zu_srep, zu_srep0, zu_scla, zu_scla0, zu_scon, zu_scon0, zu_swin, zu_swin0, zu_sleg, zu_sleg0, zu_spro, zu_sstp, zu_swrd]
      exact ⟨_, zval (rfl), hR, rfl⟩
    · have hge : (0 : Int32) ≤ nI q := nI_pos' (by omega)
      by_cases h5 : n < q
      · have hlt := nI_lt h5 (by omega : q < 2 ^ 31)
        have hle := nI_le (Nat.le_of_lt h5) (by omega : q < 2 ^ 31)
        have ha : ∀ (d : Nat) (C : zCt), zR (d + 1) 111 41 [.ref 1, .int (nI 0), .int (nI n), .int 0, zmk] [] (zZ L, zI C, zPd p0 p2 r2 r3 s4) = _ := fun d C => T111_0 d L p0 p2 r2 r3 s4 n (by omega) n 0 C zmk (by omega)
        have hb : ∀ (d : Nat) (C : zCt), zR (d + 1) 159 43 [.ref 201, .int (nI 0), .int (nI n), .int 0, zmk] [] (zZ L, zI C, zPd p0 p2 r2 r3 s4) = _ := fun d C => T159_0 d L p0 p2 r2 r3 s4 n (by omega) n 0 C zmk (by omega)
        simp +decide (disch := omega) only [e111_0, e111_4, e111_7, e111_10, e111_19, e111_22, e111_74, e111_77, e111_82, e111_83, e111_92, T112, T107, hGe, hn, h2, hlt, hle, he, hv, hge, ha, zpre, ite_self, zs1, zs2, zs3, zI_eqb, and_self, not_true_eq_false, if_true, if_false, ite_true, ite_false, not_false_eq_true, zBP, zBZ, zisO, zisA, zlen, decide_true, decide_false, Bool.and_self, Bool.and_true, Bool.true_and, cond_true, cond_false, zBG, zBR, zBU, zBV, zinb_n, zix_n, zlA, zlB, zlM, zlN, zlX, zlI, nI_add, Nat.add_eq_zero_iff, false_and, and_false, and_true, true_and, true_or, or_true, false_or, or_false, zbool_i, zb0, zb1, zshp_0, zcs_eq, zcs_n, zcs_cs, zup_g, zup_n, zp2_sun, zp2_rock, zp2_tug, zp2_contract, zp2_window, zp2_code, zp2_rbody, zp2_rstock, zp2_tfree, zp2_thold, zp2_tknown, zp2_ccells, zsh2_sun, zsh2_rock, zsh2_body, zsh2_stock, zsh2_tug, zsh2_free, zsh2_hold, zsh2_known, zsh2_contract, zsh2_window, zsh2_code, zsh2_cells, zg_nsun0, zg_nsun1, zg_nsun2, zg_nrock0, zg_nrock1, zg_nrock2, zg_nrock3, zg_nrock4, zg_nrock5, zg_nrock6, zg_nrock7, zg_nrock8, zg_nrock9, zg_nrock10, zg_nrock11, zg_nrock12, zg_nrock13, zg_nrock14, zg_ntug0, zg_ntug1, zg_ntug2, zg_ntug3, zg_ntug4, zg_ntug5, zg_ntug6, zg_ntug7, zg_ntug8, zg_ntug9, zg_ntug10, zg_ntug11, zg_ntug12, zg_ntug13, zg_ntug14, zg_ntug15, zg_ntug17, zg_ntug18, zg_ntug19, zg_ntug20, zg_ntug21, zg_ntug22, zg_ncon0, zg_ncon1, zg_ncon2, zg_ncon3, zg_ncon4, zg_ncon5, zg_ncon6, zg_nwin0, zg_nwin1, zg_nwin2, zg_nwin3, zg_nwin4, zg_nwin5, zg_ncode0, zg_ncode1, zg_ncode3, zg_nrule, zg_nstock, zg_nhold, zg_nknown, zg_nord, zg_nrep, zg_ncla, zg_ntou, zg_ncel, zu_nsun0, zu_nsun1, zu_nsun2, zu_nrock0, zu_nrock1, zu_nrock2, zu_nrock3, zu_nrock4, zu_nrock5, zu_nrock6, zu_nrock7, zu_nrock8, zu_nrock9, zu_nrock10, zu_nrock11, zu_nrock12, zu_nrock13, zu_nrock14, zu_ntug0, zu_ntug1, zu_ntug2, zu_ntug3, zu_ntug4, zu_ntug5, zu_ntug6, zu_ntug7, zu_ntug8, zu_ntug9, zu_ntug10, zu_ntug11, zu_ntug12, zu_ntug13, zu_ntug14, zu_ntug15, zu_ntug17, zu_ntug18, zu_ntug19, zu_ntug20, zu_ntug21, zu_ntug22, zu_ncon0, zu_ncon1, zu_ncon2, zu_ncon3, zu_ncon4, zu_ncon5, zu_ncon6, zu_nwin0, zu_nwin1, zu_nwin2, zu_nwin3, zu_nwin4, zu_nwin5, zu_ncode3, zu_nrule, zu_nstock, zu_nhold, zu_nknown, zu_nord, zu_nrep, zu_ncla, zu_ntou, zu_ncel]
        refine ⟨_, _, (p0, p2, r2, r3, s4), rfl, ?_⟩
        simp +decide (disch := omega) only [e159_0, e159_6, e159_9, e159_12, e159_22, e159_25, e159_40, e159_84, e159_87, e159_92, e159_93, e159_100, T154, e160_0, e160_5, e160_9, e160_10, hn, h2, hlt, hle, hv, nI_m, hb, zpre, ite_self, Nat.reduceAdd, zs1, zs2, zs3, zI_eqb, and_self, not_true_eq_false, if_true, if_false, ite_true, ite_false, not_false_eq_true, zBP, zBZ, zisO, zisA, zlen, decide_true, decide_false, Bool.and_self, Bool.and_true, Bool.true_and, cond_true, cond_false, zBG, zBR, zBU, zBV, zinb_n, zix_n, zlA, zlB, zlM, zlN, zlX, zlI, nI_add, Nat.add_eq_zero_iff, false_and, and_false, and_true, true_and, true_or, or_true, false_or, or_false, zbool_i, zb0, zb1, zshp_0, zcs_eq, zcs_n, zcs_cs, zup_g, zup_n, zg_srock2, zg_stug2, zg_ssun, zg_ssun0, zg_srock, zg_srock0, zg_stug, zg_stug0, zg_sord, zg_sord0, zg_srep, zg_srep0, zg_scla, zg_scla0, zg_scon, zg_scon0, zg_swin, zg_swin0, zg_sleg, zg_sleg0, zg_spro, zg_sstp, zg_swrd, zu_srock2, zu_stug2, zu_ssun, zu_ssun0, zu_srock, zu_srock0, zu_stug, zu_stug0, zu_sord, zu_sord0, zu_srep, zu_srep0, zu_scla, zu_scla0, zu_scon, zu_scon0, zu_swin, zu_swin0, zu_sleg, zu_sleg0, zu_spro, zu_sstp, zu_swrd]
        refine ⟨_, zval (rfl), ?_, ?_⟩
        · unfold zRep zWR
          simp (disch := omega) only [zcs_eq, zcs_n, zup_g, zup_n]
          refine ⟨⟨w, hG, hS, ?_, hT, hO, hE, hC, hK, hW, hL, hP⟩, hX⟩
          intro i hi
          obtain ⟨k1, k2, k3, k4, k5, k6, k7, k8, k9⟩ := hRR i hi
          unfold zRR1 zly
          simp +decide only [false_and, if_false, true_and]
          have hval : ∀ j, j < n → C 387 0 j = C 420 0 (0 + j) := fun j hj => hA j (by omega)
          refine ⟨?_, k2, k3, ?_, k5, k6, k7, k8, ?_⟩
          · intro f hf hf2
            by_cases e : f = 9 ∧ 0 ≤ i ∧ i < n
            · rw [if_pos e, if_pos e, hval i e.2.2]
            · rw [if_neg e, if_neg e]; exact k1 f hf hf2
          · intro f hf hf2
            rw [if_neg (by omega)]
            exact k4 f hf hf2
          · by_cases e : 0 ≤ i ∧ i < n
            · rw [if_pos e]
              by_cases e2 : 0 ≤ C 420 0 (0 + i) ∧ C 420 0 (0 + i) ≤ 999
              · rw [if_pos e2]
                obtain ⟨x, hx, e3⟩ := zrng (n := 999) e2 (by decide)
                exact ⟨x, hx, e3⟩
              · rw [if_neg e2]; exact ⟨0, by decide, rfl⟩
            · rw [if_neg e]; exact k9
        · simp (disch := omega) only [zcs_n]
      · by_cases h6 : n = q
        · subst h6
          have hlt := nI_nlt (Nat.le_refl n) (by omega : n < 2 ^ 31)
          have hle := nI_le (Nat.le_refl n) (by omega : n < 2 ^ 31)
          have ha : ∀ (d : Nat) (C : zCt), zR (d + 1) 111 41 [.ref 1, .int (nI 0), .int (nI n), .int 0, zmk] [] (zZ L, zI C, zPd p0 p2 r2 r3 s4) = _ := fun d C => T111_0 d L p0 p2 r2 r3 s4 n (by omega) n 0 C zmk (by omega)
          have hb : ∀ (d : Nat) (C : zCt), zR (d + 1) 159 43 [.ref 201, .int (nI 0), .int (nI n), .int 0, zmk] [] (zZ L, zI C, zPd p0 p2 r2 r3 s4) = _ := fun d C => T159_0 d L p0 p2 r2 r3 s4 n (by omega) n 0 C zmk (by omega)
          simp +decide (disch := omega) only [e111_0, e111_4, e111_7, e111_10, e111_19, e111_22, e111_74, e111_77, e111_82, e111_83, e111_92, T112, T107, hGe, hn, h2, hlt, hle, he, hv, hge, ha, zpre, ite_self, zs1, zs2, zs3, zI_eqb, and_self, not_true_eq_false, if_true, if_false, ite_true, ite_false, not_false_eq_true, zBP, zBZ, zisO, zisA, zlen, decide_true, decide_false, Bool.and_self, Bool.and_true, Bool.true_and, cond_true, cond_false, zBG, zBR, zBU, zBV, zinb_n, zix_n, zlA, zlB, zlM, zlN, zlX, zlI, nI_add, Nat.add_eq_zero_iff, false_and, and_false, and_true, true_and, true_or, or_true, false_or, or_false, zbool_i, zb0, zb1, zshp_0, zcs_eq, zcs_n, zcs_cs, zup_g, zup_n, zp2_sun, zp2_rock, zp2_tug, zp2_contract, zp2_window, zp2_code, zp2_rbody, zp2_rstock, zp2_tfree, zp2_thold, zp2_tknown, zp2_ccells, zsh2_sun, zsh2_rock, zsh2_body, zsh2_stock, zsh2_tug, zsh2_free, zsh2_hold, zsh2_known, zsh2_contract, zsh2_window, zsh2_code, zsh2_cells, zg_nsun0, zg_nsun1, zg_nsun2, zg_nrock0, zg_nrock1, zg_nrock2, zg_nrock3, zg_nrock4, zg_nrock5, zg_nrock6, zg_nrock7, zg_nrock8, zg_nrock9, zg_nrock10, zg_nrock11, zg_nrock12, zg_nrock13, zg_nrock14, zg_ntug0, zg_ntug1, zg_ntug2, zg_ntug3, zg_ntug4, zg_ntug5, zg_ntug6, zg_ntug7, zg_ntug8, zg_ntug9, zg_ntug10, zg_ntug11, zg_ntug12, zg_ntug13, zg_ntug14, zg_ntug15, zg_ntug17, zg_ntug18, zg_ntug19, zg_ntug20, zg_ntug21, zg_ntug22, zg_ncon0, zg_ncon1, zg_ncon2, zg_ncon3, zg_ncon4, zg_ncon5, zg_ncon6, zg_nwin0, zg_nwin1, zg_nwin2, zg_nwin3, zg_nwin4, zg_nwin5, zg_ncode0, zg_ncode1, zg_ncode3, zg_nrule, zg_nstock, zg_nhold, zg_nknown, zg_nord, zg_nrep, zg_ncla, zg_ntou, zg_ncel, zu_nsun0, zu_nsun1, zu_nsun2, zu_nrock0, zu_nrock1, zu_nrock2, zu_nrock3, zu_nrock4, zu_nrock5, zu_nrock6, zu_nrock7, zu_nrock8, zu_nrock9, zu_nrock10, zu_nrock11, zu_nrock12, zu_nrock13, zu_nrock14, zu_ntug0, zu_ntug1, zu_ntug2, zu_ntug3, zu_ntug4, zu_ntug5, zu_ntug6, zu_ntug7, zu_ntug8, zu_ntug9, zu_ntug10, zu_ntug11, zu_ntug12, zu_ntug13, zu_ntug14, zu_ntug15, zu_ntug17, zu_ntug18, zu_ntug19, zu_ntug20, zu_ntug21, zu_ntug22, zu_ncon0, zu_ncon1, zu_ncon2, zu_ncon3, zu_ncon4, zu_ncon5, zu_ncon6, zu_nwin0, zu_nwin1, zu_nwin2, zu_nwin3, zu_nwin4, zu_nwin5, zu_ncode3, zu_nrule, zu_nstock, zu_nhold, zu_nknown, zu_nord, zu_nrep, zu_ncla, zu_ntou, zu_ncel]
          refine ⟨_, _, (p0, p2, r2, r3, s4), rfl, ?_⟩
          simp +decide (disch := omega) only [e159_0, e159_6, e159_9, e159_12, e159_22, e159_25, e159_40, e159_84, e159_87, e159_92, e159_93, e159_100, T154, e160_0, e160_5, e160_9, e160_10, hn, h2, hlt, hle, hv, nI_m, hb, zpre, ite_self, Nat.reduceAdd, zs1, zs2, zs3, zI_eqb, and_self, not_true_eq_false, if_true, if_false, ite_true, ite_false, not_false_eq_true, zBP, zBZ, zisO, zisA, zlen, decide_true, decide_false, Bool.and_self, Bool.and_true, Bool.true_and, cond_true, cond_false, zBG, zBR, zBU, zBV, zinb_n, zix_n, zlA, zlB, zlM, zlN, zlX, zlI, nI_add, Nat.add_eq_zero_iff, false_and, and_false, and_true, true_and, true_or, or_true, false_or, or_false, zbool_i, zb0, zb1, zshp_0, zcs_eq, zcs_n, zcs_cs, zup_g, zup_n, zg_srock2, zg_stug2, zg_ssun, zg_ssun0, zg_srock, zg_srock0, zg_stug, zg_stug0, zg_sord, zg_sord0, zg_srep, zg_srep0, zg_scla, zg_scla0, zg_scon, zg_scon0, zg_swin, zg_swin0, zg_sleg, zg_sleg0, zg_spro, zg_sstp, zg_swrd, zu_srock2, zu_stug2, zu_ssun, zu_ssun0, zu_srock, zu_srock0, zu_stug, zu_stug0, zu_sord, zu_sord0, zu_srep, zu_srep0, zu_scla, zu_scla0, zu_scon, zu_scon0, zu_swin, zu_swin0, zu_sleg, zu_sleg0, zu_spro, zu_sstp, zu_swrd]
          refine ⟨_, zval (rfl), ?_, ?_⟩
          · unfold zRep zWR
            simp (disch := omega) only [zcs_eq, zcs_n, zup_g, zup_n]
            refine ⟨⟨w, hG, hS, ?_, hT, hO, hE, hC, hK, hW, hL, hP⟩, hX⟩
            intro i hi
            obtain ⟨k1, k2, k3, k4, k5, k6, k7, k8, k9⟩ := hRR i hi
            unfold zRR1 zly
            simp +decide only [false_and, if_false, true_and]
            have hval : ∀ j, j < n → C 387 0 j = C 420 0 (0 + j) := fun j hj => hA j (by omega)
            refine ⟨?_, k2, k3, ?_, k5, k6, k7, k8, ?_⟩
            · intro f hf hf2
              by_cases e : f = 9 ∧ 0 ≤ i ∧ i < n
              · rw [if_pos e, if_pos e, hval i e.2.2]
              · rw [if_neg e, if_neg e]; exact k1 f hf hf2
            · intro f hf hf2
              rw [if_neg (by omega)]
              exact k4 f hf hf2
            · by_cases e : 0 ≤ i ∧ i < n
              · rw [if_pos e]
                by_cases e2 : 0 ≤ C 420 0 (0 + i) ∧ C 420 0 (0 + i) ≤ 999
                · rw [if_pos e2]
                  obtain ⟨x, hx, e3⟩ := zrng (n := 999) e2 (by decide)
                  exact ⟨x, hx, e3⟩
                · rw [if_neg e2]; exact ⟨0, by decide, rfl⟩
              · rw [if_neg e]; exact k9
          · simp (disch := omega) only [zcs_n]
        · have hlt := nI_nlt (Nat.le_of_not_lt h5) (by omega : n < 2 ^ 31)
          have hle : ¬ nI n ≤ nI q := nI_ge (by omega) (by omega)
          have ha : ∀ (d : Nat) (C : zCt), zR (d + 1) 111 41 [.ref 1, .int (nI 0), .int (nI q), .int 0, zmk] [] (zZ L, zI C, zPd p0 p2 r2 r3 s4) = _ := fun d C => T111_0 d L p0 p2 r2 r3 s4 q (by omega) q 0 C zmk (by omega)
          have hb : ∀ (d : Nat) (C : zCt), zR (d + 1) 159 43 [.ref 201, .int (nI 0), .int (nI q), .int 0, zmk] [] (zZ L, zI C, zPd p0 p2 r2 r3 s4) = _ := fun d C => T159_0 d L p0 p2 r2 r3 s4 q (by omega) q 0 C zmk (by omega)
          simp +decide (disch := omega) only [e111_0, e111_4, e111_7, e111_10, e111_19, e111_22, e111_74, e111_77, e111_82, e111_83, e111_92, T112, T107, hGe, hn, h2, hlt, hle, he, hv, hge, ha, zpre, ite_self, zs1, zs2, zs3, zI_eqb, and_self, not_true_eq_false, if_true, if_false, ite_true, ite_false, not_false_eq_true, zBP, zBZ, zisO, zisA, zlen, decide_true, decide_false, Bool.and_self, Bool.and_true, Bool.true_and, cond_true, cond_false, zBG, zBR, zBU, zBV, zinb_n, zix_n, zlA, zlB, zlM, zlN, zlX, zlI, nI_add, Nat.add_eq_zero_iff, false_and, and_false, and_true, true_and, true_or, or_true, false_or, or_false, zbool_i, zb0, zb1, zshp_0, zcs_eq, zcs_n, zcs_cs, zup_g, zup_n, zp2_sun, zp2_rock, zp2_tug, zp2_contract, zp2_window, zp2_code, zp2_rbody, zp2_rstock, zp2_tfree, zp2_thold, zp2_tknown, zp2_ccells, zsh2_sun, zsh2_rock, zsh2_body, zsh2_stock, zsh2_tug, zsh2_free, zsh2_hold, zsh2_known, zsh2_contract, zsh2_window, zsh2_code, zsh2_cells, zg_nsun0, zg_nsun1, zg_nsun2, zg_nrock0, zg_nrock1, zg_nrock2, zg_nrock3, zg_nrock4, zg_nrock5, zg_nrock6, zg_nrock7, zg_nrock8, zg_nrock9, zg_nrock10, zg_nrock11, zg_nrock12, zg_nrock13, zg_nrock14, zg_ntug0, zg_ntug1, zg_ntug2, zg_ntug3, zg_ntug4, zg_ntug5, zg_ntug6, zg_ntug7, zg_ntug8, zg_ntug9, zg_ntug10, zg_ntug11, zg_ntug12, zg_ntug13, zg_ntug14, zg_ntug15, zg_ntug17, zg_ntug18, zg_ntug19, zg_ntug20, zg_ntug21, zg_ntug22, zg_ncon0, zg_ncon1, zg_ncon2, zg_ncon3, zg_ncon4, zg_ncon5, zg_ncon6, zg_nwin0, zg_nwin1, zg_nwin2, zg_nwin3, zg_nwin4, zg_nwin5, zg_ncode0, zg_ncode1, zg_ncode3, zg_nrule, zg_nstock, zg_nhold, zg_nknown, zg_nord, zg_nrep, zg_ncla, zg_ntou, zg_ncel, zu_nsun0, zu_nsun1, zu_nsun2, zu_nrock0, zu_nrock1, zu_nrock2, zu_nrock3, zu_nrock4, zu_nrock5, zu_nrock6, zu_nrock7, zu_nrock8, zu_nrock9, zu_nrock10, zu_nrock11, zu_nrock12, zu_nrock13, zu_nrock14, zu_ntug0, zu_ntug1, zu_ntug2, zu_ntug3, zu_ntug4, zu_ntug5, zu_ntug6, zu_ntug7, zu_ntug8, zu_ntug9, zu_ntug10, zu_ntug11, zu_ntug12, zu_ntug13, zu_ntug14, zu_ntug15, zu_ntug17, zu_ntug18, zu_ntug19, zu_ntug20, zu_ntug21, zu_ntug22, zu_ncon0, zu_ncon1, zu_ncon2, zu_ncon3, zu_ncon4, zu_ncon5, zu_ncon6, zu_nwin0, zu_nwin1, zu_nwin2, zu_nwin3, zu_nwin4, zu_nwin5, zu_ncode3, zu_nrule, zu_nstock, zu_nhold, zu_nknown, zu_nord, zu_nrep, zu_ncla, zu_ntou, zu_ncel]
          refine ⟨_, _, (p0, p2, r2, r3, s4), rfl, ?_⟩
          simp +decide (disch := omega) only [e159_0, e159_6, e159_9, e159_12, e159_22, e159_25, e159_40, e159_84, e159_87, e159_92, e159_93, e159_100, T154, e160_0, e160_5, e160_9, e160_10, hn, h2, hlt, hle, hv, nI_m, hb, zpre, ite_self, Nat.reduceAdd, zs1, zs2, zs3, zI_eqb, and_self, not_true_eq_false, if_true, if_false, ite_true, ite_false, not_false_eq_true, zBP, zBZ, zisO, zisA, zlen, decide_true, decide_false, Bool.and_self, Bool.and_true, Bool.true_and, cond_true, cond_false, zBG, zBR, zBU, zBV, zinb_n, zix_n, zlA, zlB, zlM, zlN, zlX, zlI, nI_add, Nat.add_eq_zero_iff, false_and, and_false, and_true, true_and, true_or, or_true, false_or, or_false, zbool_i, zb0, zb1, zshp_0, zcs_eq, zcs_n, zcs_cs, zup_g, zup_n, zg_srock2, zg_stug2, zg_ssun, zg_ssun0, zg_srock, zg_srock0, zg_stug, zg_stug0, zg_sord, zg_sord0, zg_srep, zg_srep0, zg_scla, zg_scla0, zg_scon, zg_scon0, zg_swin, zg_swin0, zg_sleg, zg_sleg0, zg_spro, zg_sstp, zg_swrd, zu_srock2, zu_stug2, zu_ssun, zu_ssun0, zu_srock, zu_srock0, zu_stug, zu_stug0, zu_sord, zu_sord0, zu_srep, zu_srep0, zu_scla, zu_scla0, zu_scon, zu_scon0, zu_swin, zu_swin0, zu_sleg, zu_sleg0, zu_spro, zu_sstp, zu_swrd]
          refine ⟨_, zval (rfl), ?_, ?_⟩
          · unfold zRep zWR
            simp (disch := omega) only [zcs_eq, zcs_n, zup_g, zup_n]
            refine ⟨⟨w, hG, hS, ?_, hT, hO, hE, hC, hK, hW, hL, hP⟩, hX⟩
            intro i hi
            obtain ⟨k1, k2, k3, k4, k5, k6, k7, k8, k9⟩ := hRR i hi
            unfold zRR1 zly
            simp +decide only [false_and, if_false, true_and]
            have hval : ∀ j, j < q → C 387 0 j = C 420 0 (0 + j) := fun j hj => hA j (by omega)
            refine ⟨?_, k2, k3, ?_, k5, k6, k7, k8, ?_⟩
            · intro f hf hf2
              by_cases e : f = 9 ∧ 0 ≤ i ∧ i < q
              · rw [if_pos e, if_pos e, hval i e.2.2]
              · rw [if_neg e, if_neg e]; exact k1 f hf hf2
            · intro f hf hf2
              rw [if_neg (by omega)]
              exact k4 f hf hf2
            · by_cases e : 0 ≤ i ∧ i < q
              · rw [if_pos e]
                by_cases e2 : 0 ≤ C 420 0 (0 + i) ∧ C 420 0 (0 + i) ≤ 999
                · rw [if_pos e2]
                  obtain ⟨x, hx, e3⟩ := zrng (n := 999) e2 (by decide)
                  exact ⟨x, hx, e3⟩
                · rw [if_neg e2]; exact ⟨0, by decide, rfl⟩
              · rw [if_neg e]; exact k9
          · simp (disch := omega) only [zcs_n]
  · obtain ⟨he, hv, hsh⟩ := id hH1
    rcases hv with hv | ⟨q, hq40, hv, hA⟩
    · simp +decide (disch := omega) only [e111_0, e111_4, e111_7, e111_10, e111_19, e111_22, e111_74, e111_77, e111_82, e111_83, e111_92, T112, T107, hGe, hn, h2, he, hv, zpre, ite_self, zs1, zs2, zs3, zI_eqb, and_self, not_true_eq_false, if_true, if_false, ite_true, ite_false, not_false_eq_true, zBP, zBZ, zisO, zisA, zlen, decide_true, decide_false, Bool.and_self, Bool.and_true, Bool.true_and, cond_true, cond_false, zBG, zBR, zBU, zBV, zinb_n, zix_n, zlA, zlB, zlM, zlN, zlX, zlI, nI_add, Nat.add_eq_zero_iff, false_and, and_false, and_true, true_and, true_or, or_true, false_or, or_false, zbool_i, zb0, zb1, zshp_0, zcs_eq, zcs_n, zcs_cs, zup_g, zup_n, zp2_sun, zp2_rock, zp2_tug, zp2_contract, zp2_window, zp2_code, zp2_rbody, zp2_rstock, zp2_tfree, zp2_thold, zp2_tknown, zp2_ccells, zsh2_sun, zsh2_rock, zsh2_body, zsh2_stock, zsh2_tug, zsh2_free, zsh2_hold, zsh2_known, zsh2_contract, zsh2_window, zsh2_code, zsh2_cells, zg_nsun0, zg_nsun1, zg_nsun2, zg_nrock0, zg_nrock1, zg_nrock2, zg_nrock3, zg_nrock4, zg_nrock5, zg_nrock6, zg_nrock7, zg_nrock8, zg_nrock9, zg_nrock10, zg_nrock11, zg_nrock12, zg_nrock13, zg_nrock14, zg_ntug0, zg_ntug1, zg_ntug2, zg_ntug3, zg_ntug4, zg_ntug5, zg_ntug6, zg_ntug7, zg_ntug8, zg_ntug9, zg_ntug10, zg_ntug11, zg_ntug12, zg_ntug13, zg_ntug14, zg_ntug15, zg_ntug17, zg_ntug18, zg_ntug19, zg_ntug20, zg_ntug21, zg_ntug22, zg_ncon0, zg_ncon1, zg_ncon2, zg_ncon3, zg_ncon4, zg_ncon5, zg_ncon6, zg_nwin0, zg_nwin1, zg_nwin2, zg_nwin3, zg_nwin4, zg_nwin5, zg_ncode0, zg_ncode1, zg_ncode3, zg_nrule, zg_nstock, zg_nhold, zg_nknown, zg_nord, zg_nrep, zg_ncla, zg_ntou, zg_ncel, zu_nsun0, zu_nsun1, zu_nsun2, zu_nrock0, zu_nrock1, zu_nrock2, zu_nrock3, zu_nrock4, zu_nrock5, zu_nrock6, zu_nrock7, zu_nrock8, zu_nrock9, zu_nrock10, zu_nrock11, zu_nrock12, zu_nrock13, zu_nrock14, zu_ntug0, zu_ntug1, zu_ntug2, zu_ntug3, zu_ntug4, zu_ntug5, zu_ntug6, zu_ntug7, zu_ntug8, zu_ntug9, zu_ntug10, zu_ntug11, zu_ntug12, zu_ntug13, zu_ntug14, zu_ntug15, zu_ntug17, zu_ntug18, zu_ntug19, zu_ntug20, zu_ntug21, zu_ntug22, zu_ncon0, zu_ncon1, zu_ncon2, zu_ncon3, zu_ncon4, zu_ncon5, zu_ncon6, zu_nwin0, zu_nwin1, zu_nwin2, zu_nwin3, zu_nwin4, zu_nwin5, zu_ncode3, zu_nrule, zu_nstock, zu_nhold, zu_nknown, zu_nord, zu_nrep, zu_ncla, zu_ntou, zu_ncel]
      refine ⟨_, _, (p0, p2, r2, r3, s4), rfl, ?_⟩
      simp +decide (disch := omega) only [e159_0, e159_6, e159_9, e159_12, e159_22, e159_25, e159_40, e159_84, e159_87, e159_92, e159_93, e159_100, T154, e160_0, e160_5, e160_9, e160_10, hn, h2, hv, zpre, ite_self, Nat.reduceAdd, zs1, zs2, zs3, zI_eqb, and_self, not_true_eq_false, if_true, if_false, ite_true, ite_false, not_false_eq_true, zBP, zBZ, zisO, zisA, zlen, decide_true, decide_false, Bool.and_self, Bool.and_true, Bool.true_and, cond_true, cond_false, zBG, zBR, zBU, zBV, zinb_n, zix_n, zlA, zlB, zlM, zlN, zlX, zlI, nI_add, Nat.add_eq_zero_iff, false_and, and_false, and_true, true_and, true_or, or_true, false_or, or_false, zbool_i, zb0, zb1, zshp_0, zcs_eq, zcs_n, zcs_cs, zup_g, zup_n, zg_srock2, zg_stug2, zg_ssun, zg_ssun0, zg_srock, zg_srock0, zg_stug, zg_stug0, zg_sord, zg_sord0, zg_srep, zg_srep0, zg_scla, zg_scla0, zg_scon, zg_scon0, zg_swin, zg_swin0, zg_sleg, zg_sleg0, zg_spro, zg_sstp, zg_swrd, zu_srock2, zu_stug2, zu_ssun, zu_ssun0, zu_srock, zu_srock0, zu_stug, zu_stug0, zu_sord, zu_sord0, zu_srep, zu_srep0, zu_scla, zu_scla0, zu_scon, zu_scon0, zu_swin, zu_swin0, zu_sleg, zu_sleg0, zu_spro, zu_sstp, zu_swrd]
      exact ⟨_, zval (rfl), hR, rfl⟩
    · have hge : (0 : Int32) ≤ nI q := nI_pos' (by omega)
      by_cases h5 : n < q
      · have hlt := nI_lt h5 (by omega : q < 2 ^ 31)
        have hle := nI_le (Nat.le_of_lt h5) (by omega : q < 2 ^ 31)
        have ha : ∀ (d : Nat) (C : zCt), zR (d + 1) 111 41 [.ref 1, .int (nI 1), .int (nI n), .int 0, zmk] [] (zZ L, zI C, zPd p0 p2 r2 r3 s4) = _ := fun d C => T111_1 d L p0 p2 r2 r3 s4 n (by omega) n 0 C zmk (by omega)
        have hb : ∀ (d : Nat) (C : zCt), zR (d + 1) 159 43 [.ref 201, .int (nI 1), .int (nI n), .int 0, zmk] [] (zZ L, zI C, zPd p0 p2 r2 r3 s4) = _ := fun d C => T159_1 d L p0 p2 r2 r3 s4 n (by omega) n 0 C zmk (by omega)
        simp +decide (disch := omega) only [e111_0, e111_4, e111_7, e111_10, e111_19, e111_22, e111_74, e111_77, e111_82, e111_83, e111_92, T112, T107, hGe, hn, h2, hlt, hle, he, hv, hge, ha, zpre, ite_self, zs1, zs2, zs3, zI_eqb, and_self, not_true_eq_false, if_true, if_false, ite_true, ite_false, not_false_eq_true, zBP, zBZ, zisO, zisA, zlen, decide_true, decide_false, Bool.and_self, Bool.and_true, Bool.true_and, cond_true, cond_false, zBG, zBR, zBU, zBV, zinb_n, zix_n, zlA, zlB, zlM, zlN, zlX, zlI, nI_add, Nat.add_eq_zero_iff, false_and, and_false, and_true, true_and, true_or, or_true, false_or, or_false, zbool_i, zb0, zb1, zshp_0, zcs_eq, zcs_n, zcs_cs, zup_g, zup_n, zp2_sun, zp2_rock, zp2_tug, zp2_contract, zp2_window, zp2_code, zp2_rbody, zp2_rstock, zp2_tfree, zp2_thold, zp2_tknown, zp2_ccells, zsh2_sun, zsh2_rock, zsh2_body, zsh2_stock, zsh2_tug, zsh2_free, zsh2_hold, zsh2_known, zsh2_contract, zsh2_window, zsh2_code, zsh2_cells, zg_nsun0, zg_nsun1, zg_nsun2, zg_nrock0, zg_nrock1, zg_nrock2, zg_nrock3, zg_nrock4, zg_nrock5, zg_nrock6, zg_nrock7, zg_nrock8, zg_nrock9, zg_nrock10, zg_nrock11, zg_nrock12, zg_nrock13, zg_nrock14, zg_ntug0, zg_ntug1, zg_ntug2, zg_ntug3, zg_ntug4, zg_ntug5, zg_ntug6, zg_ntug7, zg_ntug8, zg_ntug9, zg_ntug10, zg_ntug11, zg_ntug12, zg_ntug13, zg_ntug14, zg_ntug15, zg_ntug17, zg_ntug18, zg_ntug19, zg_ntug20, zg_ntug21, zg_ntug22, zg_ncon0, zg_ncon1, zg_ncon2, zg_ncon3, zg_ncon4, zg_ncon5, zg_ncon6, zg_nwin0, zg_nwin1, zg_nwin2, zg_nwin3, zg_nwin4, zg_nwin5, zg_ncode0, zg_ncode1, zg_ncode3, zg_nrule, zg_nstock, zg_nhold, zg_nknown, zg_nord, zg_nrep, zg_ncla, zg_ntou, zg_ncel, zu_nsun0, zu_nsun1, zu_nsun2, zu_nrock0, zu_nrock1, zu_nrock2, zu_nrock3, zu_nrock4, zu_nrock5, zu_nrock6, zu_nrock7, zu_nrock8, zu_nrock9, zu_nrock10, zu_nrock11, zu_nrock12, zu_nrock13, zu_nrock14, zu_ntug0, zu_ntug1, zu_ntug2, zu_ntug3, zu_ntug4, zu_ntug5, zu_ntug6, zu_ntug7, zu_ntug8, zu_ntug9, zu_ntug10, zu_ntug11, zu_ntug12, zu_ntug13, zu_ntug14, zu_ntug15, zu_ntug17, zu_ntug18, zu_ntug19, zu_ntug20, zu_ntug21, zu_ntug22, zu_ncon0, zu_ncon1, zu_ncon2, zu_ncon3, zu_ncon4, zu_ncon5, zu_ncon6, zu_nwin0, zu_nwin1, zu_nwin2, zu_nwin3, zu_nwin4, zu_nwin5, zu_ncode3, zu_nrule, zu_nstock, zu_nhold, zu_nknown, zu_nord, zu_nrep, zu_ncla, zu_ntou, zu_ncel]
        refine ⟨_, _, (p0, p2, r2, r3, s4), rfl, ?_⟩
        simp +decide (disch := omega) only [e159_0, e159_6, e159_9, e159_12, e159_22, e159_25, e159_40, e159_84, e159_87, e159_92, e159_93, e159_100, T154, e160_0, e160_5, e160_9, e160_10, hn, h2, hlt, hle, hv, nI_m, hb, zpre, ite_self, Nat.reduceAdd, zs1, zs2, zs3, zI_eqb, and_self, not_true_eq_false, if_true, if_false, ite_true, ite_false, not_false_eq_true, zBP, zBZ, zisO, zisA, zlen, decide_true, decide_false, Bool.and_self, Bool.and_true, Bool.true_and, cond_true, cond_false, zBG, zBR, zBU, zBV, zinb_n, zix_n, zlA, zlB, zlM, zlN, zlX, zlI, nI_add, Nat.add_eq_zero_iff, false_and, and_false, and_true, true_and, true_or, or_true, false_or, or_false, zbool_i, zb0, zb1, zshp_0, zcs_eq, zcs_n, zcs_cs, zup_g, zup_n, zg_srock2, zg_stug2, zg_ssun, zg_ssun0, zg_srock, zg_srock0, zg_stug, zg_stug0, zg_sord, zg_sord0, zg_srep, zg_srep0, zg_scla, zg_scla0, zg_scon, zg_scon0, zg_swin, zg_swin0, zg_sleg, zg_sleg0, zg_spro, zg_sstp, zg_swrd, zu_srock2, zu_stug2, zu_ssun, zu_ssun0, zu_srock, zu_srock0, zu_stug, zu_stug0, zu_sord, zu_sord0, zu_srep, zu_srep0, zu_scla, zu_scla0, zu_scon, zu_scon0, zu_swin, zu_swin0, zu_sleg, zu_sleg0, zu_spro, zu_sstp, zu_swrd]
        refine ⟨_, zval (rfl), ?_, ?_⟩
        · unfold zRep zWR
          simp (disch := omega) only [zcs_eq, zcs_n, zup_g, zup_n]
          refine ⟨⟨w, hG, hS, ?_, hT, hO, hE, hC, hK, hW, hL, hP⟩, hX⟩
          intro i hi
          obtain ⟨k1, k2, k3, k4, k5, k6, k7, k8, k9⟩ := hRR i hi
          unfold zRR1 zly
          simp +decide only [false_and, if_false, true_and]
          have hval : ∀ j, j < n → C 388 0 j = C 420 0 (40 + j) := fun j hj => hA j (by omega)
          refine ⟨?_, k2, k3, ?_, k5, k6, k7, k8, ?_⟩
          · intro f hf hf2
            by_cases e : f = 9 ∧ 0 ≤ i ∧ i < n
            · rw [if_pos e, if_pos e, hval i e.2.2]
            · rw [if_neg e, if_neg e]; exact k1 f hf hf2
          · intro f hf hf2
            rw [if_neg (by omega)]
            exact k4 f hf hf2
          · by_cases e : 0 ≤ i ∧ i < n
            · rw [if_pos e]
              by_cases e2 : 0 ≤ C 420 0 (40 + i) ∧ C 420 0 (40 + i) ≤ 999
              · rw [if_pos e2]
                obtain ⟨x, hx, e3⟩ := zrng (n := 999) e2 (by decide)
                exact ⟨x, hx, e3⟩
              · rw [if_neg e2]; exact ⟨0, by decide, rfl⟩
            · rw [if_neg e]; exact k9
        · simp (disch := omega) only [zcs_n]
      · by_cases h6 : n = q
        · subst h6
          have hlt := nI_nlt (Nat.le_refl n) (by omega : n < 2 ^ 31)
          have hle := nI_le (Nat.le_refl n) (by omega : n < 2 ^ 31)
          have ha : ∀ (d : Nat) (C : zCt), zR (d + 1) 111 41 [.ref 1, .int (nI 1), .int (nI n), .int 0, zmk] [] (zZ L, zI C, zPd p0 p2 r2 r3 s4) = _ := fun d C => T111_1 d L p0 p2 r2 r3 s4 n (by omega) n 0 C zmk (by omega)
          have hb : ∀ (d : Nat) (C : zCt), zR (d + 1) 159 43 [.ref 201, .int (nI 1), .int (nI n), .int 0, zmk] [] (zZ L, zI C, zPd p0 p2 r2 r3 s4) = _ := fun d C => T159_1 d L p0 p2 r2 r3 s4 n (by omega) n 0 C zmk (by omega)
          simp +decide (disch := omega) only [e111_0, e111_4, e111_7, e111_10, e111_19, e111_22, e111_74, e111_77, e111_82, e111_83, e111_92, T112, T107, hGe, hn, h2, hlt, hle, he, hv, hge, ha, zpre, ite_self, zs1, zs2, zs3, zI_eqb, and_self, not_true_eq_false, if_true, if_false, ite_true, ite_false, not_false_eq_true, zBP, zBZ, zisO, zisA, zlen, decide_true, decide_false, Bool.and_self, Bool.and_true, Bool.true_and, cond_true, cond_false, zBG, zBR, zBU, zBV, zinb_n, zix_n, zlA, zlB, zlM, zlN, zlX, zlI, nI_add, Nat.add_eq_zero_iff, false_and, and_false, and_true, true_and, true_or, or_true, false_or, or_false, zbool_i, zb0, zb1, zshp_0, zcs_eq, zcs_n, zcs_cs, zup_g, zup_n, zp2_sun, zp2_rock, zp2_tug, zp2_contract, zp2_window, zp2_code, zp2_rbody, zp2_rstock, zp2_tfree, zp2_thold, zp2_tknown, zp2_ccells, zsh2_sun, zsh2_rock, zsh2_body, zsh2_stock, zsh2_tug, zsh2_free, zsh2_hold, zsh2_known, zsh2_contract, zsh2_window, zsh2_code, zsh2_cells, zg_nsun0, zg_nsun1, zg_nsun2, zg_nrock0, zg_nrock1, zg_nrock2, zg_nrock3, zg_nrock4, zg_nrock5, zg_nrock6, zg_nrock7, zg_nrock8, zg_nrock9, zg_nrock10, zg_nrock11, zg_nrock12, zg_nrock13, zg_nrock14, zg_ntug0, zg_ntug1, zg_ntug2, zg_ntug3, zg_ntug4, zg_ntug5, zg_ntug6, zg_ntug7, zg_ntug8, zg_ntug9, zg_ntug10, zg_ntug11, zg_ntug12, zg_ntug13, zg_ntug14, zg_ntug15, zg_ntug17, zg_ntug18, zg_ntug19, zg_ntug20, zg_ntug21, zg_ntug22, zg_ncon0, zg_ncon1, zg_ncon2, zg_ncon3, zg_ncon4, zg_ncon5, zg_ncon6, zg_nwin0, zg_nwin1, zg_nwin2, zg_nwin3, zg_nwin4, zg_nwin5, zg_ncode0, zg_ncode1, zg_ncode3, zg_nrule, zg_nstock, zg_nhold, zg_nknown, zg_nord, zg_nrep, zg_ncla, zg_ntou, zg_ncel, zu_nsun0, zu_nsun1, zu_nsun2, zu_nrock0, zu_nrock1, zu_nrock2, zu_nrock3, zu_nrock4, zu_nrock5, zu_nrock6, zu_nrock7, zu_nrock8, zu_nrock9, zu_nrock10, zu_nrock11, zu_nrock12, zu_nrock13, zu_nrock14, zu_ntug0, zu_ntug1, zu_ntug2, zu_ntug3, zu_ntug4, zu_ntug5, zu_ntug6, zu_ntug7, zu_ntug8, zu_ntug9, zu_ntug10, zu_ntug11, zu_ntug12, zu_ntug13, zu_ntug14, zu_ntug15, zu_ntug17, zu_ntug18, zu_ntug19, zu_ntug20, zu_ntug21, zu_ntug22, zu_ncon0, zu_ncon1, zu_ncon2, zu_ncon3, zu_ncon4, zu_ncon5, zu_ncon6, zu_nwin0, zu_nwin1, zu_nwin2, zu_nwin3, zu_nwin4, zu_nwin5, zu_ncode3, zu_nrule, zu_nstock, zu_nhold, zu_nknown, zu_nord, zu_nrep, zu_ncla, zu_ntou, zu_ncel]
          refine ⟨_, _, (p0, p2, r2, r3, s4), rfl, ?_⟩
          simp +decide (disch := omega) only [e159_0, e159_6, e159_9, e159_12, e159_22, e159_25, e159_40, e159_84, e159_87, e159_92, e159_93, e159_100, T154, e160_0, e160_5, e160_9, e160_10, hn, h2, hlt, hle, hv, nI_m, hb, zpre, ite_self, Nat.reduceAdd, zs1, zs2, zs3, zI_eqb, and_self, not_true_eq_false, if_true, if_false, ite_true, ite_false, not_false_eq_true, zBP, zBZ, zisO, zisA, zlen, decide_true, decide_false, Bool.and_self, Bool.and_true, Bool.true_and, cond_true, cond_false, zBG, zBR, zBU, zBV, zinb_n, zix_n, zlA, zlB, zlM, zlN, zlX, zlI, nI_add, Nat.add_eq_zero_iff, false_and, and_false, and_true, true_and, true_or, or_true, false_or, or_false, zbool_i, zb0, zb1, zshp_0, zcs_eq, zcs_n, zcs_cs, zup_g, zup_n, zg_srock2, zg_stug2, zg_ssun, zg_ssun0, zg_srock, zg_srock0, zg_stug, zg_stug0, zg_sord, zg_sord0, zg_srep, zg_srep0, zg_scla, zg_scla0, zg_scon, zg_scon0, zg_swin, zg_swin0, zg_sleg, zg_sleg0, zg_spro, zg_sstp, zg_swrd, zu_srock2, zu_stug2, zu_ssun, zu_ssun0, zu_srock, zu_srock0, zu_stug, zu_stug0, zu_sord, zu_sord0, zu_srep, zu_srep0, zu_scla, zu_scla0, zu_scon, zu_scon0, zu_swin, zu_swin0, zu_sleg, zu_sleg0, zu_spro, zu_sstp, zu_swrd]
          refine ⟨_, zval (rfl), ?_, ?_⟩
          · unfold zRep zWR
            simp (disch := omega) only [zcs_eq, zcs_n, zup_g, zup_n]
            refine ⟨⟨w, hG, hS, ?_, hT, hO, hE, hC, hK, hW, hL, hP⟩, hX⟩
            intro i hi
            obtain ⟨k1, k2, k3, k4, k5, k6, k7, k8, k9⟩ := hRR i hi
            unfold zRR1 zly
            simp +decide only [false_and, if_false, true_and]
            have hval : ∀ j, j < n → C 388 0 j = C 420 0 (40 + j) := fun j hj => hA j (by omega)
            refine ⟨?_, k2, k3, ?_, k5, k6, k7, k8, ?_⟩
            · intro f hf hf2
              by_cases e : f = 9 ∧ 0 ≤ i ∧ i < n
              · rw [if_pos e, if_pos e, hval i e.2.2]
              · rw [if_neg e, if_neg e]; exact k1 f hf hf2
            · intro f hf hf2
              rw [if_neg (by omega)]
              exact k4 f hf hf2
            · by_cases e : 0 ≤ i ∧ i < n
              · rw [if_pos e]
                by_cases e2 : 0 ≤ C 420 0 (40 + i) ∧ C 420 0 (40 + i) ≤ 999
                · rw [if_pos e2]
                  obtain ⟨x, hx, e3⟩ := zrng (n := 999) e2 (by decide)
                  exact ⟨x, hx, e3⟩
                · rw [if_neg e2]; exact ⟨0, by decide, rfl⟩
              · rw [if_neg e]; exact k9
          · simp (disch := omega) only [zcs_n]
        · have hlt := nI_nlt (Nat.le_of_not_lt h5) (by omega : n < 2 ^ 31)
          have hle : ¬ nI n ≤ nI q := nI_ge (by omega) (by omega)
          have ha : ∀ (d : Nat) (C : zCt), zR (d + 1) 111 41 [.ref 1, .int (nI 1), .int (nI q), .int 0, zmk] [] (zZ L, zI C, zPd p0 p2 r2 r3 s4) = _ := fun d C => T111_1 d L p0 p2 r2 r3 s4 q (by omega) q 0 C zmk (by omega)
          have hb : ∀ (d : Nat) (C : zCt), zR (d + 1) 159 43 [.ref 201, .int (nI 1), .int (nI q), .int 0, zmk] [] (zZ L, zI C, zPd p0 p2 r2 r3 s4) = _ := fun d C => T159_1 d L p0 p2 r2 r3 s4 q (by omega) q 0 C zmk (by omega)
          simp +decide (disch := omega) only [e111_0, e111_4, e111_7, e111_10, e111_19, e111_22, e111_74, e111_77, e111_82, e111_83, e111_92, T112, T107, hGe, hn, h2, hlt, hle, he, hv, hge, ha, zpre, ite_self, zs1, zs2, zs3, zI_eqb, and_self, not_true_eq_false, if_true, if_false, ite_true, ite_false, not_false_eq_true, zBP, zBZ, zisO, zisA, zlen, decide_true, decide_false, Bool.and_self, Bool.and_true, Bool.true_and, cond_true, cond_false, zBG, zBR, zBU, zBV, zinb_n, zix_n, zlA, zlB, zlM, zlN, zlX, zlI, nI_add, Nat.add_eq_zero_iff, false_and, and_false, and_true, true_and, true_or, or_true, false_or, or_false, zbool_i, zb0, zb1, zshp_0, zcs_eq, zcs_n, zcs_cs, zup_g, zup_n, zp2_sun, zp2_rock, zp2_tug, zp2_contract, zp2_window, zp2_code, zp2_rbody, zp2_rstock, zp2_tfree, zp2_thold, zp2_tknown, zp2_ccells, zsh2_sun, zsh2_rock, zsh2_body, zsh2_stock, zsh2_tug, zsh2_free, zsh2_hold, zsh2_known, zsh2_contract, zsh2_window, zsh2_code, zsh2_cells, zg_nsun0, zg_nsun1, zg_nsun2, zg_nrock0, zg_nrock1, zg_nrock2, zg_nrock3, zg_nrock4, zg_nrock5, zg_nrock6, zg_nrock7, zg_nrock8, zg_nrock9, zg_nrock10, zg_nrock11, zg_nrock12, zg_nrock13, zg_nrock14, zg_ntug0, zg_ntug1, zg_ntug2, zg_ntug3, zg_ntug4, zg_ntug5, zg_ntug6, zg_ntug7, zg_ntug8, zg_ntug9, zg_ntug10, zg_ntug11, zg_ntug12, zg_ntug13, zg_ntug14, zg_ntug15, zg_ntug17, zg_ntug18, zg_ntug19, zg_ntug20, zg_ntug21, zg_ntug22, zg_ncon0, zg_ncon1, zg_ncon2, zg_ncon3, zg_ncon4, zg_ncon5, zg_ncon6, zg_nwin0, zg_nwin1, zg_nwin2, zg_nwin3, zg_nwin4, zg_nwin5, zg_ncode0, zg_ncode1, zg_ncode3, zg_nrule, zg_nstock, zg_nhold, zg_nknown, zg_nord, zg_nrep, zg_ncla, zg_ntou, zg_ncel, zu_nsun0, zu_nsun1, zu_nsun2, zu_nrock0, zu_nrock1, zu_nrock2, zu_nrock3, zu_nrock4, zu_nrock5, zu_nrock6, zu_nrock7, zu_nrock8, zu_nrock9, zu_nrock10, zu_nrock11, zu_nrock12, zu_nrock13, zu_nrock14, zu_ntug0, zu_ntug1, zu_ntug2, zu_ntug3, zu_ntug4, zu_ntug5, zu_ntug6, zu_ntug7, zu_ntug8, zu_ntug9, zu_ntug10, zu_ntug11, zu_ntug12, zu_ntug13, zu_ntug14, zu_ntug15, zu_ntug17, zu_ntug18, zu_ntug19, zu_ntug20, zu_ntug21, zu_ntug22, zu_ncon0, zu_ncon1, zu_ncon2, zu_ncon3, zu_ncon4, zu_ncon5, zu_ncon6, zu_nwin0, zu_nwin1, zu_nwin2, zu_nwin3, zu_nwin4, zu_nwin5, zu_ncode3, zu_nrule, zu_nstock, zu_nhold, zu_nknown, zu_nord, zu_nrep, zu_ncla, zu_ntou, zu_ncel]
          refine ⟨_, _, (p0, p2, r2, r3, s4), rfl, ?_⟩
          simp +decide (disch := omega) only [e159_0, e159_6, e159_9, e159_12, e159_22, e159_25, e159_40, e159_84, e159_87, e159_92, e159_93, e159_100, T154, e160_0, e160_5, e160_9, e160_10, hn, h2, hlt, hle, hv, nI_m, hb, zpre, ite_self, Nat.reduceAdd, zs1, zs2, zs3, zI_eqb, and_self, not_true_eq_false, if_true, if_false, ite_true, ite_false, not_false_eq_true, zBP, zBZ, zisO, zisA, zlen, decide_true, decide_false, Bool.and_self, Bool.and_true, Bool.true_and, cond_true, cond_false, zBG, zBR, zBU, zBV, zinb_n, zix_n, zlA, zlB, zlM, zlN, zlX, zlI, nI_add, Nat.add_eq_zero_iff, false_and, and_false, and_true, true_and, true_or, or_true, false_or, or_false, zbool_i, zb0, zb1, zshp_0, zcs_eq, zcs_n, zcs_cs, zup_g, zup_n, zg_srock2, zg_stug2, zg_ssun, zg_ssun0, zg_srock, zg_srock0, zg_stug, zg_stug0, zg_sord, zg_sord0, zg_srep, zg_srep0, zg_scla, zg_scla0, zg_scon, zg_scon0, zg_swin, zg_swin0, zg_sleg, zg_sleg0, zg_spro, zg_sstp, zg_swrd, zu_srock2, zu_stug2, zu_ssun, zu_ssun0, zu_srock, zu_srock0, zu_stug, zu_stug0, zu_sord, zu_sord0, zu_srep, zu_srep0, zu_scla, zu_scla0, zu_scon, zu_scon0, zu_swin, zu_swin0, zu_sleg, zu_sleg0, zu_spro, zu_sstp, zu_swrd]
          refine ⟨_, zval (rfl), ?_, ?_⟩
          · unfold zRep zWR
            simp (disch := omega) only [zcs_eq, zcs_n, zup_g, zup_n]
            refine ⟨⟨w, hG, hS, ?_, hT, hO, hE, hC, hK, hW, hL, hP⟩, hX⟩
            intro i hi
            obtain ⟨k1, k2, k3, k4, k5, k6, k7, k8, k9⟩ := hRR i hi
            unfold zRR1 zly
            simp +decide only [false_and, if_false, true_and]
            have hval : ∀ j, j < q → C 388 0 j = C 420 0 (40 + j) := fun j hj => hA j (by omega)
            refine ⟨?_, k2, k3, ?_, k5, k6, k7, k8, ?_⟩
            · intro f hf hf2
              by_cases e : f = 9 ∧ 0 ≤ i ∧ i < q
              · rw [if_pos e, if_pos e, hval i e.2.2]
              · rw [if_neg e, if_neg e]; exact k1 f hf hf2
            · intro f hf hf2
              rw [if_neg (by omega)]
              exact k4 f hf hf2
            · by_cases e : 0 ≤ i ∧ i < q
              · rw [if_pos e]
                by_cases e2 : 0 ≤ C 420 0 (40 + i) ∧ C 420 0 (40 + i) ≤ 999
                · rw [if_pos e2]
                  obtain ⟨x, hx, e3⟩ := zrng (n := 999) e2 (by decide)
                  exact ⟨x, hx, e3⟩
                · rw [if_neg e2]; exact ⟨0, by decide, rfl⟩
              · rw [if_neg e]; exact k9
          · simp (disch := omega) only [zcs_n]
