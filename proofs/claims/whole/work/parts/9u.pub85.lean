/-! THE PROGRAM: the loops about it, printed by wip/gen/pub85.py -/
theorem T90 (d L p0 p2 r2 r3 s4 nt p : Nat) (hnt : nt ≤ 4) : ∀ (m i : Nat) (C : zCt), C 0 0 6 = nI nt → i + m = nt → ∃ C', zR d 90 2 [.ref 2, .int (nI p), .int (nI i)] [] (zZ L, zI C, zPd p0 p2 r2 r3 s4) = some (none, (zZ L, zI C', zPd p0 p2 r2 r3 s4)) ∧ (∀ g, g ≠ 3 → C' g = C g) ∧ ∀ k f, C' 3 k f = if i ≤ k ∧ k < nt ∧ f = 10 ∧ C 3 k 10 = nI p then -1000000005 else C 3 k f := by
  intro m
  induction m with
  | zero =>
    intro i C h hm
    obtain rfl : i = nt := by omega
    have c1 : nI i ≤ nI i := Int32.le_refl _
    refine ⟨C, ?_, fun _ _ => rfl, fun k f => by rw [if_neg (by omega)]⟩
    rw [e90_2]
    simp +decide (disch := omega) only [e90_40, h, c1, zpre, ite_self, zs1, zs2, zs3, zI_eqb, and_self, not_true_eq_false, if_true, if_false, ite_true, ite_false, not_false_eq_true, zBP, zBZ, zisO, zisA, zlen, decide_true, decide_false, Bool.and_self, Bool.and_true, Bool.true_and, cond_true, cond_false, zBG, zBR, zBU, zBV, zinb_n, zix_n, zlA, zlB, zlM, zlN, zlX, zlI, nI_add, Nat.add_eq_zero_iff, false_and, and_false, and_true, true_and, true_or, or_true, false_or, or_false, zbool_i, zb0, zb1, zshp_0, zcs_eq, zcs_n, zcs_cs, zup_g, zup_n, zp2_sun, zp2_rock, zp2_tug, zp2_contract, zp2_window, zp2_code, zp2_rbody, zp2_rstock, zp2_tfree, zp2_thold, zp2_tknown, zp2_ccells, zsh2_sun, zsh2_rock, zsh2_body, zsh2_stock, zsh2_tug, zsh2_free, zsh2_hold, zsh2_known, zsh2_contract, zsh2_window, zsh2_code, zsh2_cells, zg_nsun0, zg_nsun1, zg_nsun2, zg_nrock0, zg_nrock1, zg_nrock2, zg_nrock3, zg_nrock4, zg_nrock5, zg_nrock6, zg_nrock7, zg_nrock8, zg_nrock9, zg_nrock10, zg_nrock11, zg_nrock12, zg_nrock13, zg_nrock14, zg_ntug0, zg_ntug1, zg_ntug2, zg_ntug3, zg_ntug4, zg_ntug5, zg_ntug6, zg_ntug7, zg_ntug8, zg_ntug9, zg_ntug10, zg_ntug11, zg_ntug12, zg_ntug13, zg_ntug14, zg_ntug15, zg_ntug17, zg_ntug18, zg_ntug19, zg_ntug20, zg_ntug21, zg_ntug22, zg_ncon0, zg_ncon1, zg_ncon2, zg_ncon3, zg_ncon4, zg_ncon5, zg_ncon6, zg_nwin0, zg_nwin1, zg_nwin2, zg_nwin3, zg_nwin4, zg_nwin5, zg_ncode0, zg_ncode1, zg_ncode3, zg_nrule, zg_nstock, zg_nhold, zg_nknown, zg_nord, zg_nrep, zg_ncla, zg_ntou, zg_ncel, zu_nsun0, zu_nsun1, zu_nsun2, zu_nrock0, zu_nrock1, zu_nrock2, zu_nrock3, zu_nrock4, zu_nrock5, zu_nrock6, zu_nrock7, zu_nrock8, zu_nrock9, zu_nrock10, zu_nrock11, zu_nrock12, zu_nrock13, zu_nrock14, zu_ntug0, zu_ntug1, zu_ntug2, zu_ntug3, zu_ntug4, zu_ntug5, zu_ntug6, zu_ntug7, zu_ntug8, zu_ntug9, zu_ntug10, zu_ntug11, zu_ntug12, zu_ntug13, zu_ntug14, zu_ntug15, zu_ntug17, zu_ntug18, zu_ntug19, zu_ntug20, zu_ntug21, zu_ntug22, zu_ncon0, zu_ncon1, zu_ncon2, zu_ncon3, zu_ncon4, zu_ncon5, zu_ncon6, zu_nwin0, zu_nwin1, zu_nwin2, zu_nwin3, zu_nwin4, zu_nwin5, zu_ncode3, zu_nrule, zu_nstock, zu_nhold, zu_nknown, zu_nord, zu_nrep, zu_ncla, zu_ntou, zu_ncel]
  | succ m IH =>
    intro i C h hm
    have c1 : ¬ nI nt ≤ nI i := nI_ge (by omega) (by omega)
    by_cases hq : C 3 i 10 = nI p
    · obtain ⟨C1, hC1⟩ : ∃ C1, C1 = zcs C 3 (zup (C 3) i 10 (-1000000005)) := ⟨_, rfl⟩
      obtain ⟨C', e1, e2, e3⟩ := IH (i + 1) C1 (by rw [hC1, zcs_n _ _ (by decide)]; exact h) (by omega)
      refine ⟨C', ?_, fun g hg => by rw [e2 g hg, hC1, zcs_n _ _ hg], fun k f => ?_⟩
      · rw [hC1] at e1
        rw [← e1, e90_2]
        simp +decide (disch := omega) only [e90_10, e90_23, e90_34, h, c1, hq, zpre, ite_self, zs1, zs2, zs3, zI_eqb, and_self, not_true_eq_false, if_true, if_false, ite_true, ite_false, not_false_eq_true, zBP, zBZ, zisO, zisA, zlen, decide_true, decide_false, Bool.and_self, Bool.and_true, Bool.true_and, cond_true, cond_false, zBG, zBR, zBU, zBV, zinb_n, zix_n, zlA, zlB, zlM, zlN, zlX, zlI, nI_add, Nat.add_eq_zero_iff, false_and, and_false, and_true, true_and, true_or, or_true, false_or, or_false, zbool_i, zb0, zb1, zshp_0, zcs_eq, zcs_n, zcs_cs, zup_g, zup_n, zp2_sun, zp2_rock, zp2_tug, zp2_contract, zp2_window, zp2_code, zp2_rbody, zp2_rstock, zp2_tfree, zp2_thold, zp2_tknown, zp2_ccells, zsh2_sun, zsh2_rock, zsh2_body, zsh2_stock, zsh2_tug, zsh2_free, zsh2_hold, zsh2_known, zsh2_contract, zsh2_window, zsh2_code, zsh2_cells, zg_nsun0, zg_nsun1, zg_nsun2, zg_nrock0, zg_nrock1, zg_nrock2, zg_nrock3, zg_nrock4, zg_nrock5, zg_nrock6, zg_nrock7, zg_nrock8, zg_nrock9, zg_nrock10, zg_nrock11, zg_nrock12, zg_nrock13, zg_nrock14, zg_ntug0, zg_ntug1, zg_ntug2, zg_ntug3, zg_ntug4, zg_ntug5, zg_ntug6, zg_ntug7, zg_ntug8, zg_ntug9, zg_ntug10, zg_ntug11, zg_ntug12, zg_ntug13, zg_ntug14, zg_ntug15, zg_ntug17, zg_ntug18, zg_ntug19, zg_ntug20, zg_ntug21, zg_ntug22, zg_ncon0, zg_ncon1, zg_ncon2, zg_ncon3, zg_ncon4, zg_ncon5, zg_ncon6, zg_nwin0, zg_nwin1, zg_nwin2, zg_nwin3, zg_nwin4, zg_nwin5, zg_ncode0, zg_ncode1, zg_ncode3, zg_nrule, zg_nstock, zg_nhold, zg_nknown, zg_nord, zg_nrep, zg_ncla, zg_ntou, zg_ncel, zu_nsun0, zu_nsun1, zu_nsun2, zu_nrock0, zu_nrock1, zu_nrock2, zu_nrock3, zu_nrock4, zu_nrock5, zu_nrock6, zu_nrock7, zu_nrock8, zu_nrock9, zu_nrock10, zu_nrock11, zu_nrock12, zu_nrock13, zu_nrock14, zu_ntug0, zu_ntug1, zu_ntug2, zu_ntug3, zu_ntug4, zu_ntug5, zu_ntug6, zu_ntug7, zu_ntug8, zu_ntug9, zu_ntug10, zu_ntug11, zu_ntug12, zu_ntug13, zu_ntug14, zu_ntug15, zu_ntug17, zu_ntug18, zu_ntug19, zu_ntug20, zu_ntug21, zu_ntug22, zu_ncon0, zu_ncon1, zu_ncon2, zu_ncon3, zu_ncon4, zu_ncon5, zu_ncon6, zu_nwin0, zu_nwin1, zu_nwin2, zu_nwin3, zu_nwin4, zu_nwin5, zu_ncode3, zu_nrule, zu_nstock, zu_nhold, zu_nknown, zu_nord, zu_nrep, zu_ncla, zu_ntou, zu_ncel]
      · rw [e3 k f, hC1, zcs_eq]
        by_cases hk : k = i
        · subst hk
          rw [if_neg (by omega)]
          by_cases hf : f = 10
          · subst hf
            rw [zup_g, if_pos ⟨Nat.le_refl _, by omega, rfl, hq⟩]
          · rw [zup_n _ _ (by omega), if_neg (fun w => hf w.2.2.1)]
        · rw [zup_n _ _ (by omega), zup_n _ _ (by omega)]
          by_cases w : i + 1 ≤ k
          · by_cases w2 : k < nt ∧ f = 10 ∧ C 3 k 10 = nI p
            · rw [if_pos ⟨w, w2⟩, if_pos ⟨by omega, w2⟩]
            · rw [if_neg (fun y => w2 y.2), if_neg (fun y => w2 y.2)]
          · rw [if_neg (fun y => w y.1), if_neg (fun y => by have := y.1; omega)]
    · obtain ⟨C', e1, e2, e3⟩ := IH (i + 1) C h (by omega)
      refine ⟨C', ?_, e2, fun k f => ?_⟩
      · rw [← e1, e90_2]
        simp +decide (disch := omega) only [e90_10, e90_34, h, c1, hq, zpre, ite_self, zs1, zs2, zs3, zI_eqb, and_self, not_true_eq_false, if_true, if_false, ite_true, ite_false, not_false_eq_true, zBP, zBZ, zisO, zisA, zlen, decide_true, decide_false, Bool.and_self, Bool.and_true, Bool.true_and, cond_true, cond_false, zBG, zBR, zBU, zBV, zinb_n, zix_n, zlA, zlB, zlM, zlN, zlX, zlI, nI_add, Nat.add_eq_zero_iff, false_and, and_false, and_true, true_and, true_or, or_true, false_or, or_false, zbool_i, zb0, zb1, zshp_0, zcs_eq, zcs_n, zcs_cs, zup_g, zup_n, zp2_sun, zp2_rock, zp2_tug, zp2_contract, zp2_window, zp2_code, zp2_rbody, zp2_rstock, zp2_tfree, zp2_thold, zp2_tknown, zp2_ccells, zsh2_sun, zsh2_rock, zsh2_body, zsh2_stock, zsh2_tug, zsh2_free, zsh2_hold, zsh2_known, zsh2_contract, zsh2_window, zsh2_code, zsh2_cells, zg_nsun0, zg_nsun1, zg_nsun2, zg_nrock0, zg_nrock1, zg_nrock2, zg_nrock3, zg_nrock4, zg_nrock5, zg_nrock6, zg_nrock7, zg_nrock8, zg_nrock9, zg_nrock10, zg_nrock11, zg_nrock12, zg_nrock13, zg_nrock14, zg_ntug0, zg_ntug1, zg_ntug2, zg_ntug3, zg_ntug4, zg_ntug5, zg_ntug6, zg_ntug7, zg_ntug8, zg_ntug9, zg_ntug10, zg_ntug11, zg_ntug12, zg_ntug13, zg_ntug14, zg_ntug15, zg_ntug17, zg_ntug18, zg_ntug19, zg_ntug20, zg_ntug21, zg_ntug22, zg_ncon0, zg_ncon1, zg_ncon2, zg_ncon3, zg_ncon4, zg_ncon5, zg_ncon6, zg_nwin0, zg_nwin1, zg_nwin2, zg_nwin3, zg_nwin4, zg_nwin5, zg_ncode0, zg_ncode1, zg_ncode3, zg_nrule, zg_nstock, zg_nhold, zg_nknown, zg_nord, zg_nrep, zg_ncla, zg_ntou, zg_ncel, zu_nsun0, zu_nsun1, zu_nsun2, zu_nrock0, zu_nrock1, zu_nrock2, zu_nrock3, zu_nrock4, zu_nrock5, zu_nrock6, zu_nrock7, zu_nrock8, zu_nrock9, zu_nrock10, zu_nrock11, zu_nrock12, zu_nrock13, zu_nrock14, zu_ntug0, zu_ntug1, zu_ntug2, zu_ntug3, zu_ntug4, zu_ntug5, zu_ntug6, zu_ntug7, zu_ntug8, zu_ntug9, zu_ntug10, zu_ntug11, zu_ntug12, zu_ntug13, zu_ntug14, zu_ntug15, zu_ntug17, zu_ntug18, zu_ntug19, zu_ntug20, zu_ntug21, zu_ntug22, zu_ncon0, zu_ncon1, zu_ncon2, zu_ncon3, zu_ncon4, zu_ncon5, zu_ncon6, zu_nwin0, zu_nwin1, zu_nwin2, zu_nwin3, zu_nwin4, zu_nwin5, zu_ncode3, zu_nrule, zu_nstock, zu_nhold, zu_nknown, zu_nord, zu_nrep, zu_ncla, zu_ntou, zu_ncel]
      · rw [e3 k f]
        by_cases w : i + 1 ≤ k
        · by_cases w2 : k < nt ∧ f = 10 ∧ C 3 k 10 = nI p
          · rw [if_pos ⟨w, w2⟩, if_pos ⟨by omega, w2⟩]
          · rw [if_neg (fun y => w2 y.2), if_neg (fun y => w2 y.2)]
        · rw [if_neg (fun y => w y.1), if_neg (fun y => ?_)]
          have : k = i := by have := y.1; omega
          subst this
          exact hq y.2.2.2
theorem T178 (d L p0 p2 r2 r3 s4 nt p : Nat) (hnt : nt ≤ 4) (v3 : Value) : ∀ (m i : Nat) (C : zCt), C 40 0 6 = nI nt → i + m = nt → ∃ C', zR d 178 27 [.ref 201, .int (nI p), .int (nI i), v3] [] (zZ L, zI C, zPd p0 p2 r2 r3 s4) = zR d 178 81 [.ref 201, .int (nI p), .int (nI nt), v3] [] (zZ L, zI C', zPd p0 p2 r2 r3 s4) ∧ (∀ g, g ≠ 43 → C' g = C g) ∧ ∀ k f, C' 43 k f = if i ≤ k ∧ k < nt ∧ f = 10 ∧ C 43 k 10 = nI p then -1 else C 43 k f := by
  intro m
  induction m with
  | zero =>
    intro i C h hm
    obtain rfl : i = nt := by omega
    have c1 : nI i ≤ nI i := Int32.le_refl _
    refine ⟨C, ?_, fun _ _ => rfl, fun k f => by rw [if_neg (by omega)]⟩
    rw [e178_27]
    simp +decide (disch := omega) only [h, c1, zpre, ite_self, Nat.reduceAdd, zs1, zs2, zs3, zI_eqb, and_self, not_true_eq_false, if_true, if_false, ite_true, ite_false, not_false_eq_true, zBP, zBZ, zisO, zisA, zlen, decide_true, decide_false, Bool.and_self, Bool.and_true, Bool.true_and, cond_true, cond_false, zBG, zBR, zBU, zBV, zinb_n, zix_n, zlA, zlB, zlM, zlN, zlX, zlI, nI_add, Nat.add_eq_zero_iff, false_and, and_false, and_true, true_and, true_or, or_true, false_or, or_false, zbool_i, zb0, zb1, zshp_0, zcs_eq, zcs_n, zcs_cs, zup_g, zup_n, zg_srock2, zg_stug2, zg_ssun, zg_ssun0, zg_srock, zg_srock0, zg_stug, zg_stug0, zg_sord, zg_sord0, zg_srep, zg_srep0, zg_scla, zg_scla0, zg_scon, zg_scon0, zg_swin, zg_swin0, zg_sleg, zg_sleg0, zg_spro, zg_sstp, zg_swrd, zu_srock2, zu_stug2, zu_ssun, zu_ssun0, zu_srock, zu_srock0, zu_stug, zu_stug0, zu_sord, zu_sord0, zu_srep, zu_srep0, zu_scla, zu_scla0, zu_scon, zu_scon0, zu_swin, zu_swin0, zu_sleg, zu_sleg0, zu_spro, zu_sstp, zu_swrd]
  | succ m IH =>
    intro i C h hm
    have c1 : ¬ nI nt ≤ nI i := nI_ge (by omega) (by omega)
    have m1 : ((160 : Int32) + 28 * nI i) + 10 = nI (160 + 28 * i + 10) := by show (nI 160 + nI 28 * nI i) + nI 10 = _; rw [nI_mul, nI_add, nI_add]
    by_cases hq : C 43 i 10 = nI p
    · obtain ⟨C1, hC1⟩ : ∃ C1, C1 = zcs C 43 (zup (C 43) i 10 (-1)) := ⟨_, rfl⟩
      obtain ⟨C', e1, e2, e3⟩ := IH (i + 1) C1 (by rw [hC1, zcs_n _ _ (by decide)]; exact h) (by omega)
      refine ⟨C', ?_, fun g hg => by rw [e2 g hg, hC1, zcs_n _ _ hg], fun k f => ?_⟩
      · rw [hC1] at e1
        rw [← e1, e178_27]
        simp +decide (disch := omega) only [e178_38, e178_58, e178_75, h, c1, hq, m1, zpre, ite_self, Nat.reduceAdd, zs1, zs2, zs3, zI_eqb, and_self, not_true_eq_false, if_true, if_false, ite_true, ite_false, not_false_eq_true, zBP, zBZ, zisO, zisA, zlen, decide_true, decide_false, Bool.and_self, Bool.and_true, Bool.true_and, cond_true, cond_false, zBG, zBR, zBU, zBV, zinb_n, zix_n, zlA, zlB, zlM, zlN, zlX, zlI, nI_add, Nat.add_eq_zero_iff, false_and, and_false, and_true, true_and, true_or, or_true, false_or, or_false, zbool_i, zb0, zb1, zshp_0, zcs_eq, zcs_n, zcs_cs, zup_g, zup_n, zg_srock2, zg_stug2, zg_ssun, zg_ssun0, zg_srock, zg_srock0, zg_stug, zg_stug0, zg_sord, zg_sord0, zg_srep, zg_srep0, zg_scla, zg_scla0, zg_scon, zg_scon0, zg_swin, zg_swin0, zg_sleg, zg_sleg0, zg_spro, zg_sstp, zg_swrd, zu_srock2, zu_stug2, zu_ssun, zu_ssun0, zu_srock, zu_srock0, zu_stug, zu_stug0, zu_sord, zu_sord0, zu_srep, zu_srep0, zu_scla, zu_scla0, zu_scon, zu_scon0, zu_swin, zu_swin0, zu_sleg, zu_sleg0, zu_spro, zu_sstp, zu_swrd]
      · rw [e3 k f, hC1, zcs_eq]
        by_cases hk : k = i
        · subst hk
          rw [if_neg (by omega)]
          by_cases hf : f = 10
          · subst hf
            rw [zup_g, if_pos ⟨Nat.le_refl _, by omega, rfl, hq⟩]
          · rw [zup_n _ _ (by omega), if_neg (fun w => hf w.2.2.1)]
        · rw [zup_n _ _ (by omega), zup_n _ _ (by omega)]
          by_cases w : i + 1 ≤ k
          · by_cases w2 : k < nt ∧ f = 10 ∧ C 43 k 10 = nI p
            · rw [if_pos ⟨w, w2⟩, if_pos ⟨by omega, w2⟩]
            · rw [if_neg (fun y => w2 y.2), if_neg (fun y => w2 y.2)]
          · rw [if_neg (fun y => w y.1), if_neg (fun y => by have := y.1; omega)]
    · obtain ⟨C', e1, e2, e3⟩ := IH (i + 1) C h (by omega)
      refine ⟨C', ?_, e2, fun k f => ?_⟩
      · rw [← e1, e178_27]
        simp +decide (disch := omega) only [e178_38, e178_75, h, c1, hq, m1, zpre, ite_self, Nat.reduceAdd, zs1, zs2, zs3, zI_eqb, and_self, not_true_eq_false, if_true, if_false, ite_true, ite_false, not_false_eq_true, zBP, zBZ, zisO, zisA, zlen, decide_true, decide_false, Bool.and_self, Bool.and_true, Bool.true_and, cond_true, cond_false, zBG, zBR, zBU, zBV, zinb_n, zix_n, zlA, zlB, zlM, zlN, zlX, zlI, nI_add, Nat.add_eq_zero_iff, false_and, and_false, and_true, true_and, true_or, or_true, false_or, or_false, zbool_i, zb0, zb1, zshp_0, zcs_eq, zcs_n, zcs_cs, zup_g, zup_n, zg_srock2, zg_stug2, zg_ssun, zg_ssun0, zg_srock, zg_srock0, zg_stug, zg_stug0, zg_sord, zg_sord0, zg_srep, zg_srep0, zg_scla, zg_scla0, zg_scon, zg_scon0, zg_swin, zg_swin0, zg_sleg, zg_sleg0, zg_spro, zg_sstp, zg_swrd, zu_srock2, zu_stug2, zu_ssun, zu_ssun0, zu_srock, zu_srock0, zu_stug, zu_stug0, zu_sord, zu_sord0, zu_srep, zu_srep0, zu_scla, zu_scla0, zu_scon, zu_scon0, zu_swin, zu_swin0, zu_sleg, zu_sleg0, zu_spro, zu_sstp, zu_swrd]
      · rw [e3 k f]
        by_cases w : i + 1 ≤ k
        · by_cases w2 : k < nt ∧ f = 10 ∧ C 43 k 10 = nI p
          · rw [if_pos ⟨w, w2⟩, if_pos ⟨by omega, w2⟩]
          · rw [if_neg (fun y => w2 y.2), if_neg (fun y => w2 y.2)]
        · rw [if_neg (fun y => w y.1), if_neg (fun y => ?_)]
          have : k = i := by have := y.1; omega
          subst this
          exact hq y.2.2.2

theorem T178s (d L p0 p2 r2 r3 s4 N p : Nat) (hp : p < 4) (hN : N ≤ 120) : ∀ (m i : Nat) (C : zCt), C 401 0 13 = nI N → i + m = 4 * N → ∃ C', zR d 178 129 [.ref 201, .int (nI p), .int (nI (1086 + 782 * p)), .int (nI i)] [] (zZ L, zI C, zPd p0 p2 r2 r3 s4) = zR d 178 161 [.ref 201, .int (nI p), .int (nI (1086 + 782 * p)), .int (nI (4 * N))] [] (zZ L, zI C', zPd p0 p2 r2 r3 s4) ∧ (∀ g, g ≠ 50 + p → C' g = C g) ∧ ∀ j f, f < 4 → C' (50 + p) j f = if i ≤ 4 * j + f ∧ j < N then C 405 0 (4 * j + f) else C (50 + p) j f := by
  intro m
  induction m with
  | zero =>
    intro i C h hm
    obtain rfl : i = 4 * N := by omega
    have c1 : nI (4 * N) ≤ nI (4 * N) := Int32.le_refl _
    have m0 : (4 : Int32) * nI N = nI (4 * N) := nI_mul 4 N
    refine ⟨C, ?_, fun _ _ => rfl, fun j f hf => by rw [if_neg (by omega)]⟩
    rw [e178_129]
    simp +decide (disch := omega) only [h, c1, m0, zpre, ite_self, Nat.reduceAdd, zs1, zs2, zs3, zI_eqb, and_self, not_true_eq_false, if_true, if_false, ite_true, ite_false, not_false_eq_true, zBP, zBZ, zisO, zisA, zlen, decide_true, decide_false, Bool.and_self, Bool.and_true, Bool.true_and, cond_true, cond_false, zBG, zBR, zBU, zBV, zinb_n, zix_n, zlA, zlB, zlM, zlN, zlX, zlI, nI_add, Nat.add_eq_zero_iff, false_and, and_false, and_true, true_and, true_or, or_true, false_or, or_false, zbool_i, zb0, zb1, zshp_0, zcs_eq, zcs_n, zcs_cs, zup_g, zup_n, zg_srock2, zg_stug2, zg_ssun, zg_ssun0, zg_srock, zg_srock0, zg_stug, zg_stug0, zg_sord, zg_sord0, zg_srep, zg_srep0, zg_scla, zg_scla0, zg_scon, zg_scon0, zg_swin, zg_swin0, zg_sleg, zg_sleg0, zg_spro, zg_sstp, zg_swrd, zu_srock2, zu_stug2, zu_ssun, zu_ssun0, zu_srock, zu_srock0, zu_stug, zu_stug0, zu_sord, zu_sord0, zu_srep, zu_srep0, zu_scla, zu_scla0, zu_scon, zu_scon0, zu_swin, zu_swin0, zu_sleg, zu_sleg0, zu_spro, zu_sstp, zu_swrd]
  | succ m IH =>
    intro i C h hm
    have c1 : ¬ nI (4 * N) ≤ nI i := nI_ge (by omega) (by omega)
    have m0 : (4 : Int32) * nI N = nI (4 * N) := nI_mul 4 N
    have m1 : nI (1086 + 782 * p) + 2 + nI i = nI (1086 + 782 * p + 2 + i) := by show nI (1086 + 782 * p) + nI 2 + nI i = _; rw [nI_add, nI_add]
    obtain ⟨C1, hC1⟩ : ∃ C1, C1 = zcs C (50 + p) (zup (C (50 + p)) (i / 4) (i % 4) (C 405 0 i)) := ⟨_, rfl⟩
    have u1 : zup (zI C) 202 (1086 + 782 * p + 2 + i) (C 405 0 i) = zI C1 := by rw [hC1]; exact zI_put (zq_sstp p hp i (by omega))
    obtain ⟨C', e1, e2, e3⟩ := IH (i + 1) C1 (by rw [hC1, zcs_n _ _ (by omega)]; exact h) (by omega)
    refine ⟨C', ?_, fun g hg => by rw [e2 g hg, hC1, zcs_n _ _ hg], fun j f hf => ?_⟩
    · rw [← e1, e178_129]
      simp +decide (disch := omega) only [e178_139, h, c1, m0, m1, u1, zpre, ite_self, Nat.reduceAdd, zs1, zs2, zs3, zI_eqb, and_self, not_true_eq_false, if_true, if_false, ite_true, ite_false, not_false_eq_true, zBP, zBZ, zisO, zisA, zlen, decide_true, decide_false, Bool.and_self, Bool.and_true, Bool.true_and, cond_true, cond_false, zBG, zBR, zBU, zBV, zinb_n, zix_n, zlA, zlB, zlM, zlN, zlX, zlI, nI_add, Nat.add_eq_zero_iff, false_and, and_false, and_true, true_and, true_or, or_true, false_or, or_false, zbool_i, zb0, zb1, zshp_0, zcs_eq, zcs_n, zcs_cs, zup_g, zup_n, zg_srock2, zg_stug2, zg_ssun, zg_ssun0, zg_srock, zg_srock0, zg_stug, zg_stug0, zg_sord, zg_sord0, zg_srep, zg_srep0, zg_scla, zg_scla0, zg_scon, zg_scon0, zg_swin, zg_swin0, zg_sleg, zg_sleg0, zg_spro, zg_sstp, zg_swrd, zu_srock2, zu_stug2, zu_ssun, zu_ssun0, zu_srock, zu_srock0, zu_stug, zu_stug0, zu_sord, zu_sord0, zu_srep, zu_srep0, zu_scla, zu_scla0, zu_scon, zu_scon0, zu_swin, zu_swin0, zu_sleg, zu_sleg0, zu_spro, zu_sstp, zu_swrd]
    · rw [e3 j f hf, hC1, zcs_eq, zcs_n _ _ (by omega)]
      by_cases w : 4 * j + f = i
      · rw [if_neg (by omega), show i / 4 = j by omega, show i % 4 = f by omega, zup_g, if_pos ⟨by omega, by omega⟩, w]
      · rw [zup_n _ _ (by omega)]
        by_cases w1 : i ≤ 4 * j + f ∧ j < N
        · rw [if_pos ⟨by omega, w1.2⟩, if_pos w1]
        · rw [if_neg (fun y => w1 ⟨by omega, y.2⟩), if_neg w1]

theorem T178w (d L p0 p2 r2 r3 s4 N p : Nat) (hp : p < 4) (hN : N ≤ 120) : ∀ (m i : Nat) (C : zCt), C 401 0 14 = nI N → i + m = 2 * N → ∃ C', zR d 178 163 [.ref 201, .int (nI p), .int (nI (1086 + 782 * p)), .int (nI i)] [] (zZ L, zI C, zPd p0 p2 r2 r3 s4) = zR d 178 197 [.ref 201, .int (nI p), .int (nI (1086 + 782 * p)), .int (nI (2 * N))] [] (zZ L, zI C', zPd p0 p2 r2 r3 s4) ∧ (∀ g, g ≠ 54 + p → C' g = C g) ∧ ∀ j f, f < 2 → C' (54 + p) j f = if i ≤ 2 * j + f ∧ j < N then C 406 0 (2 * j + f) else C (54 + p) j f := by
  intro m
  induction m with
  | zero =>
    intro i C h hm
    obtain rfl : i = 2 * N := by omega
    have c1 : nI (2 * N) ≤ nI (2 * N) := Int32.le_refl _
    have m0 : (2 : Int32) * nI N = nI (2 * N) := nI_mul 2 N
    refine ⟨C, ?_, fun _ _ => rfl, fun j f hf => by rw [if_neg (by omega)]⟩
    rw [e178_163]
    simp +decide (disch := omega) only [h, c1, m0, zpre, ite_self, Nat.reduceAdd, zs1, zs2, zs3, zI_eqb, and_self, not_true_eq_false, if_true, if_false, ite_true, ite_false, not_false_eq_true, zBP, zBZ, zisO, zisA, zlen, decide_true, decide_false, Bool.and_self, Bool.and_true, Bool.true_and, cond_true, cond_false, zBG, zBR, zBU, zBV, zinb_n, zix_n, zlA, zlB, zlM, zlN, zlX, zlI, nI_add, Nat.add_eq_zero_iff, false_and, and_false, and_true, true_and, true_or, or_true, false_or, or_false, zbool_i, zb0, zb1, zshp_0, zcs_eq, zcs_n, zcs_cs, zup_g, zup_n, zg_srock2, zg_stug2, zg_ssun, zg_ssun0, zg_srock, zg_srock0, zg_stug, zg_stug0, zg_sord, zg_sord0, zg_srep, zg_srep0, zg_scla, zg_scla0, zg_scon, zg_scon0, zg_swin, zg_swin0, zg_sleg, zg_sleg0, zg_spro, zg_sstp, zg_swrd, zu_srock2, zu_stug2, zu_ssun, zu_ssun0, zu_srock, zu_srock0, zu_stug, zu_stug0, zu_sord, zu_sord0, zu_srep, zu_srep0, zu_scla, zu_scla0, zu_scon, zu_scon0, zu_swin, zu_swin0, zu_sleg, zu_sleg0, zu_spro, zu_sstp, zu_swrd]
  | succ m IH =>
    intro i C h hm
    have c1 : ¬ nI (2 * N) ≤ nI i := nI_ge (by omega) (by omega)
    have m0 : (2 : Int32) * nI N = nI (2 * N) := nI_mul 2 N
    have m1 : nI (1086 + 782 * p) + 522 + nI i = nI (1086 + 782 * p + 522 + i) := by show nI (1086 + 782 * p) + nI 522 + nI i = _; rw [nI_add, nI_add]
    obtain ⟨C1, hC1⟩ : ∃ C1, C1 = zcs C (54 + p) (zup (C (54 + p)) (i / 2) (i % 2) (C 406 0 i)) := ⟨_, rfl⟩
    have u1 : zup (zI C) 202 (1086 + 782 * p + 522 + i) (C 406 0 i) = zI C1 := by rw [hC1]; exact zI_put (zq_swrd p hp i (by omega))
    obtain ⟨C', e1, e2, e3⟩ := IH (i + 1) C1 (by rw [hC1, zcs_n _ _ (by omega)]; exact h) (by omega)
    refine ⟨C', ?_, fun g hg => by rw [e2 g hg, hC1, zcs_n _ _ hg], fun j f hf => ?_⟩
    · rw [← e1, e178_163]
      simp +decide (disch := omega) only [e178_173, h, c1, m0, m1, u1, zpre, ite_self, Nat.reduceAdd, zs1, zs2, zs3, zI_eqb, and_self, not_true_eq_false, if_true, if_false, ite_true, ite_false, not_false_eq_true, zBP, zBZ, zisO, zisA, zlen, decide_true, decide_false, Bool.and_self, Bool.and_true, Bool.true_and, cond_true, cond_false, zBG, zBR, zBU, zBV, zinb_n, zix_n, zlA, zlB, zlM, zlN, zlX, zlI, nI_add, Nat.add_eq_zero_iff, false_and, and_false, and_true, true_and, true_or, or_true, false_or, or_false, zbool_i, zb0, zb1, zshp_0, zcs_eq, zcs_n, zcs_cs, zup_g, zup_n, zg_srock2, zg_stug2, zg_ssun, zg_ssun0, zg_srock, zg_srock0, zg_stug, zg_stug0, zg_sord, zg_sord0, zg_srep, zg_srep0, zg_scla, zg_scla0, zg_scon, zg_scon0, zg_swin, zg_swin0, zg_sleg, zg_sleg0, zg_spro, zg_sstp, zg_swrd, zu_srock2, zu_stug2, zu_ssun, zu_ssun0, zu_srock, zu_srock0, zu_stug, zu_stug0, zu_sord, zu_sord0, zu_srep, zu_srep0, zu_scla, zu_scla0, zu_scon, zu_scon0, zu_swin, zu_swin0, zu_sleg, zu_sleg0, zu_spro, zu_sstp, zu_swrd]
    · rw [e3 j f hf, hC1, zcs_eq, zcs_n _ _ (by omega)]
      by_cases w : 2 * j + f = i
      · rw [if_neg (by omega), show i / 2 = j by omega, show i % 2 = f by omega, zup_g, if_pos ⟨by omega, by omega⟩, w]
      · rw [zup_n _ _ (by omega)]
        by_cases w1 : i ≤ 2 * j + f ∧ j < N
        · rw [if_pos ⟨by omega, w1.2⟩, if_pos w1]
        · rw [if_neg (fun y => w1 ⟨by omega, y.2⟩), if_neg w1]

