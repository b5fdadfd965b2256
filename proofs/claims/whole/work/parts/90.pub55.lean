/-! THE RUN: the pair, printed by wip/gen/pub55.py -/
theorem e128_33v (d : Nat) (Z : List (Nat × Nat)) (I : Nat → Nat → Int32) (P : Nat → Nat → Nat) (r0 : Nat) (x1 x2 : Int32) (v3 : Value) : zR d 128 33 [.ref r0, .int x1, .int x2, v3] [] (Z, I, P) = (if x1 ≤ x2 then zR d 128 96 [.ref r0, .int x1, .int x2, v3] [] (Z, I, P) else zR d 128 38 [.ref r0, .int x1, .int x2, v3] [] (Z, I, P)) := zE_br (g := true) (p := x1 ≤ x2) (t := 96) (f := 38) zK128 rfl zi128 18 3 rfl
theorem TUGS (d1 d2 L p0 p2 r2 r3 s4 nt : Nat) (hnt : nt ≤ 4) (x1 x2 : Int32) (v2 : Value) : ∀ (m t : Nat) (Ca Cb : zCt) (q2 q3 : Nat), zWW Ca Cb → Cb 40 0 6 = nI nt → t + m = nt → ∃ (Ca' Cb' : zCt) (q2' q3' : Nat), zR (d1 + 10) 128 47 [.ref 1, .int x1, .int x2, .int (nI t)] [] (zZ L, zI Ca, zPd p0 p2 q2 q3 s4) = zR (d1 + 10) 128 76 [.ref 1, .int x1, .int x2, .int (nI nt)] [] (zZ L, zI Ca', zPd p0 p2 q2' q3' s4) ∧ zR (d2 + 8) 204 14 [.ref 201, .int (nI t), v2] [] (zZ L, zI Cb, zPd p0 p2 r2 r3 s4) = zR (d2 + 8) 204 36 [.ref 201, .int (nI nt), v2] [] (zZ L, zI Cb', zPd p0 p2 r2 r3 s4) ∧ zWW Ca' Cb' ∧ zFa Ca Ca' ∧ zFb Cb Cb' ∧ Cb' 40 0 0 = Cb 40 0 0 := by
  intro m
  induction m with
  | zero =>
    intro t Ca Cb q2 q3 h ht hm
    obtain rfl : t = nt := by omega
    obtain ⟨w, hG, _⟩ := id h
    have ht0 : Ca 0 0 6 = nI t := (hG.1 6 (by decide)).trans ht
    have c1 : nI t ≤ nI t := Int32.le_refl _
    refine ⟨Ca, Cb, q2, q3, ?_, ?_, h, zFa_r _, zFb_r _, rfl⟩
    · rw [e128_47]
      simp +decide (disch := omega) only [ht0, c1, zpre, ite_self, zs1, zs2, zs3, zI_eqb, and_self, not_true_eq_false, if_true, if_false, ite_true, ite_false, not_false_eq_true, zBP, zBZ, zisO, zisA, zlen, decide_true, decide_false, Bool.and_self, Bool.and_true, Bool.true_and, cond_true, cond_false, zBG, zBR, zBU, zBV, zinb_n, zix_n, zlA, zlB, zlM, zlN, zlX, zlI, nI_add, Nat.add_eq_zero_iff, false_and, and_false, and_true, true_and, true_or, or_true, false_or, or_false, zbool_i, zb0, zb1, zshp_0, zcs_eq, zcs_n, zcs_cs, zup_g, zup_n, zp2_sun, zp2_rock, zp2_tug, zp2_contract, zp2_window, zp2_code, zp2_rbody, zp2_rstock, zp2_tfree, zp2_thold, zp2_tknown, zp2_ccells, zsh2_sun, zsh2_rock, zsh2_body, zsh2_stock, zsh2_tug, zsh2_free, zsh2_hold, zsh2_known, zsh2_contract, zsh2_window, zsh2_code, zsh2_cells, zg_nsun0, zg_nsun1, zg_nsun2, zg_nrock0, zg_nrock1, zg_nrock2, zg_nrock3, zg_nrock4, zg_nrock5, zg_nrock6, zg_nrock7, zg_nrock8, zg_nrock9, zg_nrock10, zg_nrock11, zg_nrock12, zg_nrock13, zg_nrock14, zg_ntug0, zg_ntug1, zg_ntug2, zg_ntug3, zg_ntug4, zg_ntug5, zg_ntug6, zg_ntug7, zg_ntug8, zg_ntug9, zg_ntug10, zg_ntug11, zg_ntug12, zg_ntug13, zg_ntug14, zg_ntug15, zg_ntug17, zg_ntug18, zg_ntug19, zg_ntug20, zg_ntug21, zg_ntug22, zg_ncon0, zg_ncon1, zg_ncon2, zg_ncon3, zg_ncon4, zg_ncon5, zg_ncon6, zg_nwin0, zg_nwin1, zg_nwin2, zg_nwin3, zg_nwin4, zg_nwin5, zg_ncode0, zg_ncode1, zg_ncode3, zg_nrule, zg_nstock, zg_nhold, zg_nknown, zg_nord, zg_nrep, zg_ncla, zg_ntou, zg_ncel, zu_nsun0, zu_nsun1, zu_nsun2, zu_nrock0, zu_nrock1, zu_nrock2, zu_nrock3, zu_nrock4, zu_nrock5, zu_nrock6, zu_nrock7, zu_nrock8, zu_nrock9, zu_nrock10, zu_nrock11, zu_nrock12, zu_nrock13, zu_nrock14, zu_ntug0, zu_ntug1, zu_ntug2, zu_ntug3, zu_ntug4, zu_ntug5, zu_ntug6, zu_ntug7, zu_ntug8, zu_ntug9, zu_ntug10, zu_ntug11, zu_ntug12, zu_ntug13, zu_ntug14, zu_ntug15, zu_ntug17, zu_ntug18, zu_ntug19, zu_ntug20, zu_ntug21, zu_ntug22, zu_ncon0, zu_ncon1, zu_ncon2, zu_ncon3, zu_ncon4, zu_ncon5, zu_ncon6, zu_nwin0, zu_nwin1, zu_nwin2, zu_nwin3, zu_nwin4, zu_nwin5, zu_ncode3, zu_nrule, zu_nstock, zu_nhold, zu_nknown, zu_nord, zu_nrep, zu_ncla, zu_ntou, zu_ncel]
    · rw [e204_14]
      simp +decide (disch := omega) only [ht, c1, zpre, ite_self, Nat.reduceAdd, zs1, zs2, zs3, zI_eqb, and_self, not_true_eq_false, if_true, if_false, ite_true, ite_false, not_false_eq_true, zBP, zBZ, zisO, zisA, zlen, decide_true, decide_false, Bool.and_self, Bool.and_true, Bool.true_and, cond_true, cond_false, zBG, zBR, zBU, zBV, zinb_n, zix_n, zlA, zlB, zlM, zlN, zlX, zlI, nI_add, Nat.add_eq_zero_iff, false_and, and_false, and_true, true_and, true_or, or_true, false_or, or_false, zbool_i, zb0, zb1, zshp_0, zcs_eq, zcs_n, zcs_cs, zup_g, zup_n, zg_srock2, zg_stug2, zg_ssun, zg_ssun0, zg_srock, zg_srock0, zg_stug, zg_stug0, zg_sord, zg_sord0, zg_srep, zg_srep0, zg_scla, zg_scla0, zg_scon, zg_scon0, zg_swin, zg_swin0, zg_sleg, zg_sleg0, zg_spro, zg_sstp, zg_swrd, zu_srock2, zu_stug2, zu_ssun, zu_ssun0, zu_srock, zu_srock0, zu_stug, zu_stug0, zu_sord, zu_sord0, zu_srep, zu_srep0, zu_scla, zu_scla0, zu_scon, zu_scon0, zu_swin, zu_swin0, zu_sleg, zu_sleg0, zu_spro, zu_sstp, zu_swrd]
  | succ m IH =>
    intro t Ca Cb q2 q3 h ht hm
    obtain ⟨w, hG, _⟩ := id h
    have ht0 : Ca 0 0 6 = nI nt := (hG.1 6 (by decide)).trans ht
    have c1 : ¬ nI nt ≤ nI t := nI_ge (by omega) (by omega)
    obtain ⟨Ca1, Cb1, a1, a2, a3, a4, a5, a6, a7⟩ := LIVE d1 d2 L p0 p2 q2 q3 r2 r3 s4 t Ca Cb h nt hnt ht (by omega)
    obtain ⟨Ca2, Cb2, q2', q3', b1, b2, b3, b4, b5, b6⟩ := IH (t + 1) Ca1 Cb1 2 (45 + 4 * t) a3 (a6.trans ht) (by omega)
    refine ⟨Ca2, Cb2, q2', q3', ?_, ?_, b3, zFa_t a4 b4, zFb_t a5 b5, b6.trans a7⟩
    · rw [← b1, e128_47]
      simp +decide (disch := omega) only [ht0, c1, e128_58, e128_70, a1, zpre, ite_self, zs1, zs2, zs3, zI_eqb, and_self, not_true_eq_false, if_true, if_false, ite_true, ite_false, not_false_eq_true, zBP, zBZ, zisO, zisA, zlen, decide_true, decide_false, Bool.and_self, Bool.and_true, Bool.true_and, cond_true, cond_false, zBG, zBR, zBU, zBV, zinb_n, zix_n, zlA, zlB, zlM, zlN, zlX, zlI, nI_add, Nat.add_eq_zero_iff, false_and, and_false, and_true, true_and, true_or, or_true, false_or, or_false, zbool_i, zb0, zb1, zshp_0, zcs_eq, zcs_n, zcs_cs, zup_g, zup_n, zp2_sun, zp2_rock, zp2_tug, zp2_contract, zp2_window, zp2_code, zp2_rbody, zp2_rstock, zp2_tfree, zp2_thold, zp2_tknown, zp2_ccells, zsh2_sun, zsh2_rock, zsh2_body, zsh2_stock, zsh2_tug, zsh2_free, zsh2_hold, zsh2_known, zsh2_contract, zsh2_window, zsh2_code, zsh2_cells, zg_nsun0, zg_nsun1, zg_nsun2, zg_nrock0, zg_nrock1, zg_nrock2, zg_nrock3, zg_nrock4, zg_nrock5, zg_nrock6, zg_nrock7, zg_nrock8, zg_nrock9, zg_nrock10, zg_nrock11, zg_nrock12, zg_nrock13, zg_nrock14, zg_ntug0, zg_ntug1, zg_ntug2, zg_ntug3, zg_ntug4, zg_ntug5, zg_ntug6, zg_ntug7, zg_ntug8, zg_ntug9, zg_ntug10, zg_ntug11, zg_ntug12, zg_ntug13, zg_ntug14, zg_ntug15, zg_ntug17, zg_ntug18, zg_ntug19, zg_ntug20, zg_ntug21, zg_ntug22, zg_ncon0, zg_ncon1, zg_ncon2, zg_ncon3, zg_ncon4, zg_ncon5, zg_ncon6, zg_nwin0, zg_nwin1, zg_nwin2, zg_nwin3, zg_nwin4, zg_nwin5, zg_ncode0, zg_ncode1, zg_ncode3, zg_nrule, zg_nstock, zg_nhold, zg_nknown, zg_nord, zg_nrep, zg_ncla, zg_ntou, zg_ncel, zu_nsun0, zu_nsun1, zu_nsun2, zu_nrock0, zu_nrock1, zu_nrock2, zu_nrock3, zu_nrock4, zu_nrock5, zu_nrock6, zu_nrock7, zu_nrock8, zu_nrock9, zu_nrock10, zu_nrock11, zu_nrock12, zu_nrock13, zu_nrock14, zu_ntug0, zu_ntug1, zu_ntug2, zu_ntug3, zu_ntug4, zu_ntug5, zu_ntug6, zu_ntug7, zu_ntug8, zu_ntug9, zu_ntug10, zu_ntug11, zu_ntug12, zu_ntug13, zu_ntug14, zu_ntug15, zu_ntug17, zu_ntug18, zu_ntug19, zu_ntug20, zu_ntug21, zu_ntug22, zu_ncon0, zu_ncon1, zu_ncon2, zu_ncon3, zu_ncon4, zu_ncon5, zu_ncon6, zu_nwin0, zu_nwin1, zu_nwin2, zu_nwin3, zu_nwin4, zu_nwin5, zu_ncode3, zu_nrule, zu_nstock, zu_nhold, zu_nknown, zu_nord, zu_nrep, zu_ncla, zu_ntou, zu_ncel]
    · rw [← b2, e204_14]
      simp +decide (disch := omega) only [ht, c1, e204_25, e204_30, a2, zpre, ite_self, Nat.reduceAdd, zs1, zs2, zs3, zI_eqb, and_self, not_true_eq_false, if_true, if_false, ite_true, ite_false, not_false_eq_true, zBP, zBZ, zisO, zisA, zlen, decide_true, decide_false, Bool.and_self, Bool.and_true, Bool.true_and, cond_true, cond_false, zBG, zBR, zBU, zBV, zinb_n, zix_n, zlA, zlB, zlM, zlN, zlX, zlI, nI_add, Nat.add_eq_zero_iff, false_and, and_false, and_true, true_and, true_or, or_true, false_or, or_false, zbool_i, zb0, zb1, zshp_0, zcs_eq, zcs_n, zcs_cs, zup_g, zup_n, zg_srock2, zg_stug2, zg_ssun, zg_ssun0, zg_srock, zg_srock0, zg_stug, zg_stug0, zg_sord, zg_sord0, zg_srep, zg_srep0, zg_scla, zg_scla0, zg_scon, zg_scon0, zg_swin, zg_swin0, zg_sleg, zg_sleg0, zg_spro, zg_sstp, zg_swrd, zu_srock2, zu_stug2, zu_ssun, zu_ssun0, zu_srock, zu_srock0, zu_stug, zu_stug0, zu_sord, zu_sord0, zu_srep, zu_srep0, zu_scla, zu_scla0, zu_scon, zu_scon0, zu_swin, zu_swin0, zu_sleg, zu_sleg0, zu_spro, zu_sstp, zu_swrd]
theorem ONEDAY (d1 d2 L p0 p2 r2 r3 s4 : Nat) (x1 x2 : Int32) (v3 : Value) (Ca Cb : zCt) (q2 q3 td : Nat) (h : zWW Ca Cb) (htd : Cb 40 0 0 = nI td) (htd2 : td + 1 ≤ 3000) : ∃ (Ca' Cb' : zCt) (q2' q3' : Nat) (v3' : Value), zR (d1 + 10) 128 38 [.ref 1, .int x1, .int x2, v3] [] (zZ L, zI Ca, zPd p0 p2 q2 q3 s4) = zR (d1 + 10) 128 33 [.ref 1, .int x1, .int (x2 + 1), v3'] [] (zZ L, zI Ca', zPd p0 p2 q2' q3' s4) ∧ zR (d2 + 8) 204 0 [.ref 201, zmk, zmk] [] (zZ L, zI Cb, zPd p0 p2 r2 r3 s4) = some (none, (zZ L, zI Cb', zPd p0 p2 r2 r3 s4)) ∧ zWW Ca' Cb' ∧ zFa Ca Ca' ∧ zFb Cb Cb' ∧ Cb' 40 0 0 = nI (td + 1) := by
  obtain ⟨A1, B1, a1, a2, a3, a4, a5, a6⟩ := P1 L p0 p2 q2 q3 r2 r3 s4 Ca Cb h
  obtain ⟨A2, B2, b1, b2, b3, b4, b5, b6⟩ := P2 L p0 p2 q2 q3 r2 r3 s4 A1 B1 a3
  obtain ⟨A3, B3, c1, c2, c3, c4, c5, c6⟩ := P3 L p0 p2 q2 q3 r2 r3 s4 A2 B2 b3
  obtain ⟨nt, hnt, ht⟩ : ∃ nt, nt ≤ 4 ∧ B3 40 0 6 = nI nt := by
    obtain ⟨w, hG, _⟩ := id c3
    exact hG.2.2.2.2.2.2.2.1
  obtain ⟨A4, B4, q2', q3', e1, e2, e3, e4, e5, e6⟩ := TUGS d1 d2 L p0 p2 r2 r3 s4 nt hnt x1 x2 zmk nt 0 A3 B3 q2 q3 c3 ht (by omega)
  obtain ⟨A5, B5, f1, f2, f3, f4, f5, f6⟩ := P5 (d1 + 4) (d2 + 3) L p0 p2 q2' q3' r2 r3 s4 A4 B4 e3 (nI nt) zmk
  have htd5 : B5 40 0 0 = nI td := by rw [f6, e6, c6, b6, a6]; exact htd
  obtain ⟨A6, B6, g1, g2, g3, g4, g5, g6⟩ := P6 (d1 + 5) (d2 + 4) L p0 p2 q2' q3' r2 r3 s4 A5 B5 f3 (nI nt) zmk td htd5 htd2
  have hr : zR (d1 + 9) 92 0 [.ref 2, zmk] [] (zZ L, zI Ca, zPd p0 p2 q2 q3 s4) = some (none, (zZ L, zI A3, zPd p0 p2 q2 q3 s4)) := by
    rw [e92_0]
    exact ((a1 (d1 + 6)).trans (b1 (d1 + 6))).trans (c1 (d1 + 6))
  rw [zn0] at e1 e2
  refine ⟨A6, B6, q2', q3', .int (nI nt), ?_, ?_, g3, zFa_t a4 (zFa_t b4 (zFa_t c4 (zFa_t e4 (zFa_t f4 g4)))), zFb_t a5 (zFb_t b5 (zFb_t c5 (zFb_t e5 (zFb_t f5 g5)))), g6⟩
  · have k1 : zR (d1 + 10) 128 38 [.ref 1, .int x1, .int x2, v3] [] (zZ L, zI Ca, zPd p0 p2 q2 q3 s4) = zR (d1 + 10) 128 47 [.ref 1, .int x1, .int x2, .int 0] [] (zZ L, zI A3, zPd p0 p2 q2 q3 s4) := by
      simp +decide (disch := omega) only [e128_38, e128_45, hr, zpre, ite_self, zs1, zs2, zs3, zI_eqb, and_self, not_true_eq_false, if_true, if_false, ite_true, ite_false, not_false_eq_true, zBP, zBZ, zisO, zisA, zlen, decide_true, decide_false, Bool.and_self, Bool.and_true, Bool.true_and, cond_true, cond_false, zBG, zBR, zBU, zBV, zinb_n, zix_n, zlA, zlB, zlM, zlN, zlX, zlI, nI_add, Nat.add_eq_zero_iff, false_and, and_false, and_true, true_and, true_or, or_true, false_or, or_false, zbool_i, zb0, zb1, zshp_0, zcs_eq, zcs_n, zcs_cs, zup_g, zup_n, zp2_sun, zp2_rock, zp2_tug, zp2_contract, zp2_window, zp2_code, zp2_rbody, zp2_rstock, zp2_tfree, zp2_thold, zp2_tknown, zp2_ccells, zsh2_sun, zsh2_rock, zsh2_body, zsh2_stock, zsh2_tug, zsh2_free, zsh2_hold, zsh2_known, zsh2_contract, zsh2_window, zsh2_code, zsh2_cells, zg_nsun0, zg_nsun1, zg_nsun2, zg_nrock0, zg_nrock1, zg_nrock2, zg_nrock3, zg_nrock4, zg_nrock5, zg_nrock6, zg_nrock7, zg_nrock8, zg_nrock9, zg_nrock10, zg_nrock11, zg_nrock12, zg_nrock13, zg_nrock14, zg_ntug0, zg_ntug1, zg_ntug2, zg_ntug3, zg_ntug4, zg_ntug5, zg_ntug6, zg_ntug7, zg_ntug8, zg_ntug9, zg_ntug10, zg_ntug11, zg_ntug12, zg_ntug13, zg_ntug14, zg_ntug15, zg_ntug17, zg_ntug18, zg_ntug19, zg_ntug20, zg_ntug21, zg_ntug22, zg_ncon0, zg_ncon1, zg_ncon2, zg_ncon3, zg_ncon4, zg_ncon5, zg_ncon6, zg_nwin0, zg_nwin1, zg_nwin2, zg_nwin3, zg_nwin4, zg_nwin5, zg_ncode0, zg_ncode1, zg_ncode3, zg_nrule, zg_nstock, zg_nhold, zg_nknown, zg_nord, zg_nrep, zg_ncla, zg_ntou, zg_ncel, zu_nsun0, zu_nsun1, zu_nsun2, zu_nrock0, zu_nrock1, zu_nrock2, zu_nrock3, zu_nrock4, zu_nrock5, zu_nrock6, zu_nrock7, zu_nrock8, zu_nrock9, zu_nrock10, zu_nrock11, zu_nrock12, zu_nrock13, zu_nrock14, zu_ntug0, zu_ntug1, zu_ntug2, zu_ntug3, zu_ntug4, zu_ntug5, zu_ntug6, zu_ntug7, zu_ntug8, zu_ntug9, zu_ntug10, zu_ntug11, zu_ntug12, zu_ntug13, zu_ntug14, zu_ntug15, zu_ntug17, zu_ntug18, zu_ntug19, zu_ntug20, zu_ntug21, zu_ntug22, zu_ncon0, zu_ncon1, zu_ncon2, zu_ncon3, zu_ncon4, zu_ncon5, zu_ncon6, zu_nwin0, zu_nwin1, zu_nwin2, zu_nwin3, zu_nwin4, zu_nwin5, zu_ncode3, zu_nrule, zu_nstock, zu_nhold, zu_nknown, zu_nord, zu_nrep, zu_ncla, zu_ntou, zu_ncel]
    rw [k1, e1]
    simp +decide (disch := omega) only [e128_76, e128_83, e128_90, f1, g1, zpre, ite_self, zs1, zs2, zs3, zI_eqb, and_self, not_true_eq_false, if_true, if_false, ite_true, ite_false, not_false_eq_true, zBP, zBZ, zisO, zisA, zlen, decide_true, decide_false, Bool.and_self, Bool.and_true, Bool.true_and, cond_true, cond_false, zBG, zBR, zBU, zBV, zinb_n, zix_n, zlA, zlB, zlM, zlN, zlX, zlI, nI_add, Nat.add_eq_zero_iff, false_and, and_false, and_true, true_and, true_or, or_true, false_or, or_false, zbool_i, zb0, zb1, zshp_0, zcs_eq, zcs_n, zcs_cs, zup_g, zup_n, zp2_sun, zp2_rock, zp2_tug, zp2_contract, zp2_window, zp2_code, zp2_rbody, zp2_rstock, zp2_tfree, zp2_thold, zp2_tknown, zp2_ccells, zsh2_sun, zsh2_rock, zsh2_body, zsh2_stock, zsh2_tug, zsh2_free, zsh2_hold, zsh2_known, zsh2_contract, zsh2_window, zsh2_code, zsh2_cells, zg_nsun0, zg_nsun1, zg_nsun2, zg_nrock0, zg_nrock1, zg_nrock2, zg_nrock3, zg_nrock4, zg_nrock5, zg_nrock6, zg_nrock7, zg_nrock8, zg_nrock9, zg_nrock10, zg_nrock11, zg_nrock12, zg_nrock13, zg_nrock14, zg_ntug0, zg_ntug1, zg_ntug2, zg_ntug3, zg_ntug4, zg_ntug5, zg_ntug6, zg_ntug7, zg_ntug8, zg_ntug9, zg_ntug10, zg_ntug11, zg_ntug12, zg_ntug13, zg_ntug14, zg_ntug15, zg_ntug17, zg_ntug18, zg_ntug19, zg_ntug20, zg_ntug21, zg_ntug22, zg_ncon0, zg_ncon1, zg_ncon2, zg_ncon3, zg_ncon4, zg_ncon5, zg_ncon6, zg_nwin0, zg_nwin1, zg_nwin2, zg_nwin3, zg_nwin4, zg_nwin5, zg_ncode0, zg_ncode1, zg_ncode3, zg_nrule, zg_nstock, zg_nhold, zg_nknown, zg_nord, zg_nrep, zg_ncla, zg_ntou, zg_ncel, zu_nsun0, zu_nsun1, zu_nsun2, zu_nrock0, zu_nrock1, zu_nrock2, zu_nrock3, zu_nrock4, zu_nrock5, zu_nrock6, zu_nrock7, zu_nrock8, zu_nrock9, zu_nrock10, zu_nrock11, zu_nrock12, zu_nrock13, zu_nrock14, zu_ntug0, zu_ntug1, zu_ntug2, zu_ntug3, zu_ntug4, zu_ntug5, zu_ntug6, zu_ntug7, zu_ntug8, zu_ntug9, zu_ntug10, zu_ntug11, zu_ntug12, zu_ntug13, zu_ntug14, zu_ntug15, zu_ntug17, zu_ntug18, zu_ntug19, zu_ntug20, zu_ntug21, zu_ntug22, zu_ncon0, zu_ncon1, zu_ncon2, zu_ncon3, zu_ncon4, zu_ncon5, zu_ncon6, zu_nwin0, zu_nwin1, zu_nwin2, zu_nwin3, zu_nwin4, zu_nwin5, zu_ncode3, zu_nrule, zu_nstock, zu_nhold, zu_nknown, zu_nord, zu_nrep, zu_ncla, zu_ntou, zu_ncel]
  · have k1 : zR (d2 + 8) 204 0 [.ref 201, zmk, zmk] [] (zZ L, zI Cb, zPd p0 p2 r2 r3 s4) = zR (d2 + 8) 204 14 [.ref 201, .int 0, zmk] [] (zZ L, zI B3, zPd p0 p2 r2 r3 s4) := by
      simp +decide (disch := omega) only [e204_0, e204_4, e204_8, e204_12, a2, b2, c2, zpre, ite_self, Nat.reduceAdd, zs1, zs2, zs3, zI_eqb, and_self, not_true_eq_false, if_true, if_false, ite_true, ite_false, not_false_eq_true, zBP, zBZ, zisO, zisA, zlen, decide_true, decide_false, Bool.and_self, Bool.and_true, Bool.true_and, cond_true, cond_false, zBG, zBR, zBU, zBV, zinb_n, zix_n, zlA, zlB, zlM, zlN, zlX, zlI, nI_add, Nat.add_eq_zero_iff, false_and, and_false, and_true, true_and, true_or, or_true, false_or, or_false, zbool_i, zb0, zb1, zshp_0, zcs_eq, zcs_n, zcs_cs, zup_g, zup_n, zg_srock2, zg_stug2, zg_ssun, zg_ssun0, zg_srock, zg_srock0, zg_stug, zg_stug0, zg_sord, zg_sord0, zg_srep, zg_srep0, zg_scla, zg_scla0, zg_scon, zg_scon0, zg_swin, zg_swin0, zg_sleg, zg_sleg0, zg_spro, zg_sstp, zg_swrd, zu_srock2, zu_stug2, zu_ssun, zu_ssun0, zu_srock, zu_srock0, zu_stug, zu_stug0, zu_sord, zu_sord0, zu_srep, zu_srep0, zu_scla, zu_scla0, zu_scon, zu_scon0, zu_swin, zu_swin0, zu_sleg, zu_sleg0, zu_spro, zu_sstp, zu_swrd]
    rw [k1, e2, f2, g2]
theorem RUNL (d1 d2 L p0 p2 r2 r3 s4 n : Nat) (hn : n ≤ 30) : ∀ (m i td : Nat) (Ca Cb : zCt) (q2 q3 : Nat) (v3 : Value), zWW Ca Cb → Cb 40 0 0 = nI td → i + m = n → td + m ≤ 3000 → ∃ (Ca' Cb' : zCt) (q2' q3' : Nat), zR (d1 + 10) 128 33 [.ref 1, .int (nI n), .int (nI i), v3] [] (zZ L, zI Ca, zPd p0 p2 q2 q3 s4) = some (some (.int (nI (td + m))), (zZ L, zI Ca', zPd p0 p2 q2' q3' s4)) ∧ zR (d2 + 9) 203 32 [.ref 201, .int (nI n), .int (nI i)] [] (zZ L, zI Cb, zPd p0 p2 r2 r3 s4) = some (some (.int (nI (td + m))), (zZ L, zI Cb', zPd p0 p2 r2 r3 s4)) ∧ zWW Ca' Cb' ∧ zFa Ca Ca' ∧ zFb Cb Cb' := by
  intro m
  induction m with
  | zero =>
    intro i td Ca Cb q2 q3 v3 h htd hi hm
    obtain rfl : i = n := by omega
    obtain ⟨w, hG, _⟩ := id h
    have ht0 : Ca 0 0 0 = nI td := (hG.1 0 (by decide)).trans htd
    have c1 : nI i ≤ nI i := Int32.le_refl _
    refine ⟨Ca, Cb, q2, q3, ?_, ?_, h, zFa_r _, zFb_r _⟩
    · rw [e128_33v]
      simp +decide (disch := omega) only [c1, e128_96, ht0, Nat.add_zero, zpre, ite_self, zs1, zs2, zs3, zI_eqb, and_self, not_true_eq_false, if_true, if_false, ite_true, ite_false, not_false_eq_true, zBP, zBZ, zisO, zisA, zlen, decide_true, decide_false, Bool.and_self, Bool.and_true, Bool.true_and, cond_true, cond_false, zBG, zBR, zBU, zBV, zinb_n, zix_n, zlA, zlB, zlM, zlN, zlX, zlI, nI_add, Nat.add_eq_zero_iff, false_and, and_false, and_true, true_and, true_or, or_true, false_or, or_false, zbool_i, zb0, zb1, zshp_0, zcs_eq, zcs_n, zcs_cs, zup_g, zup_n, zp2_sun, zp2_rock, zp2_tug, zp2_contract, zp2_window, zp2_code, zp2_rbody, zp2_rstock, zp2_tfree, zp2_thold, zp2_tknown, zp2_ccells, zsh2_sun, zsh2_rock, zsh2_body, zsh2_stock, zsh2_tug, zsh2_free, zsh2_hold, zsh2_known, zsh2_contract, zsh2_window, zsh2_code, zsh2_cells, zg_nsun0, zg_nsun1, zg_nsun2, zg_nrock0, zg_nrock1, zg_nrock2, zg_nrock3, zg_nrock4, zg_nrock5, zg_nrock6, zg_nrock7, zg_nrock8, zg_nrock9, zg_nrock10, zg_nrock11, zg_nrock12, zg_nrock13, zg_nrock14, zg_ntug0, zg_ntug1, zg_ntug2, zg_ntug3, zg_ntug4, zg_ntug5, zg_ntug6, zg_ntug7, zg_ntug8, zg_ntug9, zg_ntug10, zg_ntug11, zg_ntug12, zg_ntug13, zg_ntug14, zg_ntug15, zg_ntug17, zg_ntug18, zg_ntug19, zg_ntug20, zg_ntug21, zg_ntug22, zg_ncon0, zg_ncon1, zg_ncon2, zg_ncon3, zg_ncon4, zg_ncon5, zg_ncon6, zg_nwin0, zg_nwin1, zg_nwin2, zg_nwin3, zg_nwin4, zg_nwin5, zg_ncode0, zg_ncode1, zg_ncode3, zg_nrule, zg_nstock, zg_nhold, zg_nknown, zg_nord, zg_nrep, zg_ncla, zg_ntou, zg_ncel, zu_nsun0, zu_nsun1, zu_nsun2, zu_nrock0, zu_nrock1, zu_nrock2, zu_nrock3, zu_nrock4, zu_nrock5, zu_nrock6, zu_nrock7, zu_nrock8, zu_nrock9, zu_nrock10, zu_nrock11, zu_nrock12, zu_nrock13, zu_nrock14, zu_ntug0, zu_ntug1, zu_ntug2, zu_ntug3, zu_ntug4, zu_ntug5, zu_ntug6, zu_ntug7, zu_ntug8, zu_ntug9, zu_ntug10, zu_ntug11, zu_ntug12, zu_ntug13, zu_ntug14, zu_ntug15, zu_ntug17, zu_ntug18, zu_ntug19, zu_ntug20, zu_ntug21, zu_ntug22, zu_ncon0, zu_ncon1, zu_ncon2, zu_ncon3, zu_ncon4, zu_ncon5, zu_ncon6, zu_nwin0, zu_nwin1, zu_nwin2, zu_nwin3, zu_nwin4, zu_nwin5, zu_ncode3, zu_nrule, zu_nstock, zu_nhold, zu_nknown, zu_nord, zu_nrep, zu_ncla, zu_ntou, zu_ncel]
    · rw [e203_32]
      simp +decide (disch := omega) only [c1, e203_47, htd, Nat.add_zero, zpre, ite_self, Nat.reduceAdd, zs1, zs2, zs3, zI_eqb, and_self, not_true_eq_false, if_true, if_false, ite_true, ite_false, not_false_eq_true, zBP, zBZ, zisO, zisA, zlen, decide_true, decide_false, Bool.and_self, Bool.and_true, Bool.true_and, cond_true, cond_false, zBG, zBR, zBU, zBV, zinb_n, zix_n, zlA, zlB, zlM, zlN, zlX, zlI, nI_add, Nat.add_eq_zero_iff, false_and, and_false, and_true, true_and, true_or, or_true, false_or, or_false, zbool_i, zb0, zb1, zshp_0, zcs_eq, zcs_n, zcs_cs, zup_g, zup_n, zg_srock2, zg_stug2, zg_ssun, zg_ssun0, zg_srock, zg_srock0, zg_stug, zg_stug0, zg_sord, zg_sord0, zg_srep, zg_srep0, zg_scla, zg_scla0, zg_scon, zg_scon0, zg_swin, zg_swin0, zg_sleg, zg_sleg0, zg_spro, zg_sstp, zg_swrd, zu_srock2, zu_stug2, zu_ssun, zu_ssun0, zu_srock, zu_srock0, zu_stug, zu_stug0, zu_sord, zu_sord0, zu_srep, zu_srep0, zu_scla, zu_scla0, zu_scon, zu_scon0, zu_swin, zu_swin0, zu_sleg, zu_sleg0, zu_spro, zu_sstp, zu_swrd]
  | succ m IH =>
    intro i td Ca Cb q2 q3 v3 h htd hi hm
    have c1 : ¬ nI n ≤ nI i := nI_ge (by omega) (by omega)
    obtain ⟨A1, B1, q2', q3', v3', a1, a2, a3, a4, a5, a6⟩ := ONEDAY d1 d2 L p0 p2 r2 r3 s4 (nI n) (nI i) v3 Ca Cb q2 q3 td h htd (by omega)
    obtain ⟨A2, B2, q2'', q3'', b1, b2, b3, b4, b5⟩ := IH (i + 1) (td + 1) A1 B1 q2' q3' v3' a3 a6 (by omega) (by omega)
    rw [show td + (m + 1) = td + 1 + m by omega]
    refine ⟨A2, B2, q2'', q3'', ?_, ?_, b3, zFa_t a4 b4, zFb_t a5 b5⟩
    · rw [e128_33v, if_neg c1, a1, ← b1, show nI i + 1 = nI (i + 1) from nI_add i 1]
    · rw [e203_32, if_neg c1, ← b2]
      simp +decide (disch := omega) only [e203_37, e203_41, a2, zpre, ite_self, Nat.reduceAdd, zs1, zs2, zs3, zI_eqb, and_self, not_true_eq_false, if_true, if_false, ite_true, ite_false, not_false_eq_true, zBP, zBZ, zisO, zisA, zlen, decide_true, decide_false, Bool.and_self, Bool.and_true, Bool.true_and, cond_true, cond_false, zBG, zBR, zBU, zBV, zinb_n, zix_n, zlA, zlB, zlM, zlN, zlX, zlI, nI_add, Nat.add_eq_zero_iff, false_and, and_false, and_true, true_and, true_or, or_true, false_or, or_false, zbool_i, zb0, zb1, zshp_0, zcs_eq, zcs_n, zcs_cs, zup_g, zup_n, zg_srock2, zg_stug2, zg_ssun, zg_ssun0, zg_srock, zg_srock0, zg_stug, zg_stug0, zg_sord, zg_sord0, zg_srep, zg_srep0, zg_scla, zg_scla0, zg_scon, zg_scon0, zg_swin, zg_swin0, zg_sleg, zg_sleg0, zg_spro, zg_sstp, zg_swrd, zu_srock2, zu_stug2, zu_ssun, zu_ssun0, zu_srock, zu_srock0, zu_stug, zu_stug0, zu_sord, zu_sord0, zu_srep, zu_srep0, zu_scla, zu_scla0, zu_scon, zu_scon0, zu_swin, zu_swin0, zu_sleg, zu_sleg0, zu_spro, zu_sstp, zu_swrd]

theorem zWW_c {A A' B : zCt} (h : zWW A B) (e : zI A' = zI A) : zWW A' B := by
  have h0 : ∀ f, f < 18 → A' 0 0 f = A 0 0 f := by
    intro f hf
    by_cases hp : 14 ≤ f
    · obtain ⟨p, rfl⟩ : ∃ p, f = 14 + p := ⟨f - 14, by omega⟩
      rw [← zg_ncode3 A (i := p) (by omega), ← zg_ncode3 A' (i := p) (by omega), e]
    · rcases (show f = 0 ∨ f = 1 ∨ f = 2 ∨ f = 3 ∨ f = 4 ∨ f = 5 ∨ f = 6 ∨ f = 7 ∨ f = 8 ∨ f = 9 ∨ f = 10 ∨ f = 11 ∨ f = 12 ∨ f = 13 by omega) with rfl | rfl | rfl | rfl | rfl | rfl | rfl | rfl | rfl | rfl | rfl | rfl | rfl | rfl
      · exact (show zI A' 2 17 = A' 0 0 0 from by simp only [zBG]).symm.trans ((congrFun (congrFun e 2) 17).trans (show zI A 2 17 = A 0 0 0 from by simp only [zBG]))
      · exact (show zI A' 17 0 = A' 0 0 1 from by simp only [zBG]).symm.trans ((congrFun (congrFun e 17) 0).trans (show zI A 17 0 = A 0 0 1 from by simp only [zBG]))
      · exact (show zI A' 17 1 = A' 0 0 2 from by simp only [zBG]).symm.trans ((congrFun (congrFun e 17) 1).trans (show zI A 17 1 = A 0 0 2 from by simp only [zBG]))
      · exact (show zI A' 17 2 = A' 0 0 3 from by simp only [zBG]).symm.trans ((congrFun (congrFun e 17) 2).trans (show zI A 17 2 = A 0 0 3 from by simp only [zBG]))
      · exact (show zI A' 2 5 = A' 0 0 4 from by simp only [zBG]).symm.trans ((congrFun (congrFun e 2) 5).trans (show zI A 2 5 = A 0 0 4 from by simp only [zBG]))
      · exact (show zI A' 2 6 = A' 0 0 5 from by simp only [zBG]).symm.trans ((congrFun (congrFun e 2) 6).trans (show zI A 2 6 = A 0 0 5 from by simp only [zBG]))
      · exact (show zI A' 2 7 = A' 0 0 6 from by simp only [zBG]).symm.trans ((congrFun (congrFun e 2) 7).trans (show zI A 2 7 = A 0 0 6 from by simp only [zBG]))
      · exact (show zI A' 9 3 = A' 0 0 7 from by simp only [zBG]).symm.trans ((congrFun (congrFun e 9) 3).trans (show zI A 9 3 = A 0 0 7 from by simp only [zBG]))
      · exact (show zI A' 11 3 = A' 0 0 8 from by simp only [zBG]).symm.trans ((congrFun (congrFun e 11) 3).trans (show zI A 11 3 = A 0 0 8 from by simp only [zBG]))
      · exact (show zI A' 13 3 = A' 0 0 9 from by simp only [zBG]).symm.trans ((congrFun (congrFun e 13) 3).trans (show zI A 13 3 = A 0 0 9 from by simp only [zBG]))
      · exact (show zI A' 2 8 = A' 0 0 10 from by simp only [zBG]).symm.trans ((congrFun (congrFun e 2) 8).trans (show zI A 2 8 = A 0 0 10 from by simp only [zBG]))
      · exact (show zI A' 2 9 = A' 0 0 11 from by simp only [zBG]).symm.trans ((congrFun (congrFun e 2) 9).trans (show zI A 2 9 = A 0 0 11 from by simp only [zBG]))
      · exact (show zI A' 2 15 = A' 0 0 12 from by simp only [zBG]).symm.trans ((congrFun (congrFun e 2) 15).trans (show zI A 2 15 = A 0 0 12 from by simp only [zBG]))
      · exact (show zI A' 15 3 = A' 0 0 13 from by simp only [zBG]).symm.trans ((congrFun (congrFun e 15) 3).trans (show zI A 15 3 = A 0 0 13 from by simp only [zBG]))
  have h1 : ∀ i f, i < 3 → f < 3 → A' 1 i f = A 1 i f := by
    intro i f hi hf
    rcases (show f = 0 ∨ f = 1 ∨ f = 2 by omega) with rfl | rfl | rfl
    · rw [← zg_nsun0 A hi, ← zg_nsun0 A' hi, e]
    · rw [← zg_nsun1 A hi, ← zg_nsun1 A' hi, e]
    · rw [← zg_nsun2 A hi, ← zg_nsun2 A' hi, e]
  have h2 : ∀ i f, i < 8 → f < 15 → A' 2 i f = A 2 i f := by
    intro i f hi hf
    rcases (show f = 0 ∨ f = 1 ∨ f = 2 ∨ f = 3 ∨ f = 4 ∨ f = 5 ∨ f = 6 ∨ f = 7 ∨ f = 8 ∨ f = 9 ∨ f = 10 ∨ f = 11 ∨ f = 12 ∨ f = 13 ∨ f = 14 by omega) with rfl | rfl | rfl | rfl | rfl | rfl | rfl | rfl | rfl | rfl | rfl | rfl | rfl | rfl | rfl
    · rw [← zg_nrock0 A hi, ← zg_nrock0 A' hi, e]
    · rw [← zg_nrock1 A hi, ← zg_nrock1 A' hi, e]
    · rw [← zg_nrock2 A hi, ← zg_nrock2 A' hi, e]
    · rw [← zg_nrock3 A hi, ← zg_nrock3 A' hi, e]
    · rw [← zg_nrock4 A hi, ← zg_nrock4 A' hi, e]
    · rw [← zg_nrock5 A hi, ← zg_nrock5 A' hi, e]
    · rw [← zg_nrock6 A hi, ← zg_nrock6 A' hi, e]
    · rw [← zg_nrock7 A hi, ← zg_nrock7 A' hi, e]
    · rw [← zg_nrock8 A hi, ← zg_nrock8 A' hi, e]
    · rw [← zg_nrock9 A hi, ← zg_nrock9 A' hi, e]
    · rw [← zg_nrock10 A hi, ← zg_nrock10 A' hi, e]
    · rw [← zg_nrock11 A hi, ← zg_nrock11 A' hi, e]
    · rw [← zg_nrock12 A hi, ← zg_nrock12 A' hi, e]
    · rw [← zg_nrock13 A hi, ← zg_nrock13 A' hi, e]
    · rw [← zg_nrock14 A hi, ← zg_nrock14 A' hi, e]
  have h3 : ∀ i f, i < 4 → f < 23 → f ≠ 16 → A' 3 i f = A 3 i f := by
    intro i f hi hf hf16
    rcases (show f = 0 ∨ f = 1 ∨ f = 2 ∨ f = 3 ∨ f = 4 ∨ f = 5 ∨ f = 6 ∨ f = 7 ∨ f = 8 ∨ f = 9 ∨ f = 10 ∨ f = 11 ∨ f = 12 ∨ f = 13 ∨ f = 14 ∨ f = 15 ∨ f = 16 ∨ f = 17 ∨ f = 18 ∨ f = 19 ∨ f = 20 ∨ f = 21 ∨ f = 22 by omega) with rfl | rfl | rfl | rfl | rfl | rfl | rfl | rfl | rfl | rfl | rfl | rfl | rfl | rfl | rfl | rfl | rfl | rfl | rfl | rfl | rfl | rfl | rfl
    · rw [← zg_ntug0 A hi, ← zg_ntug0 A' hi, e]
    · rw [← zg_ntug1 A hi, ← zg_ntug1 A' hi, e]
    · rw [← zg_ntug2 A hi, ← zg_ntug2 A' hi, e]
    · rw [← zg_ntug3 A hi, ← zg_ntug3 A' hi, e]
    · rw [← zg_ntug4 A hi, ← zg_ntug4 A' hi, e]
    · rw [← zg_ntug5 A hi, ← zg_ntug5 A' hi, e]
    · rw [← zg_ntug6 A hi, ← zg_ntug6 A' hi, e]
    · rw [← zg_ntug7 A hi, ← zg_ntug7 A' hi, e]
    · rw [← zg_ntug8 A hi, ← zg_ntug8 A' hi, e]
    · rw [← zg_ntug9 A hi, ← zg_ntug9 A' hi, e]
    · rw [← zg_ntug10 A hi, ← zg_ntug10 A' hi, e]
    · rw [← zg_ntug11 A hi, ← zg_ntug11 A' hi, e]
    · rw [← zg_ntug12 A hi, ← zg_ntug12 A' hi, e]
    · rw [← zg_ntug13 A hi, ← zg_ntug13 A' hi, e]
    · rw [← zg_ntug14 A hi, ← zg_ntug14 A' hi, e]
    · rw [← zg_ntug15 A hi, ← zg_ntug15 A' hi, e]
    · exact absurd rfl hf16
    · rw [← zg_ntug17 A hi, ← zg_ntug17 A' hi, e]
    · rw [← zg_ntug18 A hi, ← zg_ntug18 A' hi, e]
    · rw [← zg_ntug19 A hi, ← zg_ntug19 A' hi, e]
    · rw [← zg_ntug20 A hi, ← zg_ntug20 A' hi, e]
    · rw [← zg_ntug21 A hi, ← zg_ntug21 A' hi, e]
    · rw [← zg_ntug22 A hi, ← zg_ntug22 A' hi, e]
  have h7 : ∀ i f, i < 8 → f < 7 → A' 7 i f = A 7 i f := by
    intro i f hi hf
    rcases (show f = 0 ∨ f = 1 ∨ f = 2 ∨ f = 3 ∨ f = 4 ∨ f = 5 ∨ f = 6 by omega) with rfl | rfl | rfl | rfl | rfl | rfl | rfl
    · rw [← zg_ncon0 A hi, ← zg_ncon0 A' hi, e]
    · rw [← zg_ncon1 A hi, ← zg_ncon1 A' hi, e]
    · rw [← zg_ncon2 A hi, ← zg_ncon2 A' hi, e]
    · rw [← zg_ncon3 A hi, ← zg_ncon3 A' hi, e]
    · rw [← zg_ncon4 A hi, ← zg_ncon4 A' hi, e]
    · rw [← zg_ncon5 A hi, ← zg_ncon5 A' hi, e]
    · rw [← zg_ncon6 A hi, ← zg_ncon6 A' hi, e]
  have h8 : ∀ i f, i < 16 → f < 6 → A' 8 i f = A 8 i f := by
    intro i f hi hf
    rcases (show f = 0 ∨ f = 1 ∨ f = 2 ∨ f = 3 ∨ f = 4 ∨ f = 5 by omega) with rfl | rfl | rfl | rfl | rfl | rfl
    · rw [← zg_nwin0 A hi, ← zg_nwin0 A' hi, e]
    · rw [← zg_nwin1 A hi, ← zg_nwin1 A' hi, e]
    · rw [← zg_nwin2 A hi, ← zg_nwin2 A' hi, e]
    · rw [← zg_nwin3 A hi, ← zg_nwin3 A' hi, e]
    · rw [← zg_nwin4 A hi, ← zg_nwin4 A' hi, e]
    · rw [← zg_nwin5 A hi, ← zg_nwin5 A' hi, e]
  have hm3 : ∀ f, f < 3 → ∃ c, c < 3 ∧ (c + 2) % 3 = f := fun f hf => ⟨(f + 1) % 3, by omega, by omega⟩
  have hm8 : ∀ f, f < 8 → ∃ c, c < 8 ∧ (c + 7) % 8 = f := fun f hf => ⟨(f + 1) % 8, by omega, by omega⟩
  have h4 : ∀ i f, f < 3 → A' 4 i f = A 4 i f := by
    intro i f hf
    obtain ⟨c, hc, rfl⟩ := hm3 f hf
    rw [← zg_nord A hc, ← zg_nord A' hc, e]
  have h5 : ∀ i f, f < 8 → A' 5 i f = A 5 i f := by
    intro i f hf
    obtain ⟨c, hc, rfl⟩ := hm8 f hf
    rw [← zg_nrep A hc, ← zg_nrep A' hc, e]
  have h6 : ∀ i f, f < 3 → A' 6 i f = A 6 i f := by
    intro i f hf
    obtain ⟨c, hc, rfl⟩ := hm3 f hf
    rw [← zg_ncla A hc, ← zg_ncla A' hc, e]
  have h9 : ∀ i f, f < 4 → A' 9 i f = A 9 i f := fun i f hf => by rw [← zg_ntou A hf, ← zg_ntou A' hf, e]
  have hpp : ∀ p i f, p < 4 → f < 2 → A' (10 + p) i f = A (10 + p) i f := fun p i f hp hf => by rw [← zg_ncel A hp hf, ← zg_ncel A' hp hf, e]
  obtain ⟨w, hG, hS, hRR, hT, hO, hE, hC, hK, hW, hL, hP⟩ := h
  have b4 := (zcnt hG.2.2.2.2.2.1 (by decide)).1
  have b5 := (zcnt hG.2.2.2.2.2.2.1 (by decide)).1
  have b6 := (zcnt hG.2.2.2.2.2.2.2.1 (by decide)).1
  have b10 := (zcnt hG.2.2.2.2.2.2.2.2.2.2.2.1 (by decide)).1
  have b11 := (zcnt hG.2.2.2.2.2.2.2.2.2.2.2.2.1 (by decide)).1
  refine ⟨w, ⟨fun f hf => by rw [h0 f (by omega)]; exact hG.1 f hf, hG.2⟩, fun i hi f hf => by rw [h1 i f (by omega) hf]; exact hS i hi f hf, fun i hi => ?_, fun i hi => ?_, fun i hi => ?_, fun i hi => ?_, fun i hi => ?_, fun i hi => ?_, fun i hi => ?_, fun i hi f hf => by rw [h9 i f hf]; exact hL i hi f hf, fun p hp => ?_⟩
  · obtain ⟨k1, k2, k3⟩ := hRR i hi
    refine ⟨fun f hf hf2 => ?_, ?_, k3⟩
    · rw [h2 i f (by omega) hf]; exact k1 f hf hf2
    · rw [h2 i 10 (by omega) (by decide)]; exact k2
  · obtain ⟨k1, k2, k3, k4, k5, k6, k7, k8, k9, k10, k11, k12⟩ := hT i hi
    refine ⟨fun f hf hf2 hf3 => ?_, ?_, ?_, k4, k5, k6, k7, k8, k9, k10, ?_, ?_⟩
    · rw [h3 i f (by omega) (by omega) (by omega)]; exact k1 f hf hf2 hf3
    · rw [h3 i 9 (by omega) (by decide) (by decide)]; exact k2
    · rw [h3 i 10 (by omega) (by decide) (by decide)]; exact k3
    · rw [h3 i 15 (by omega) (by decide) (by decide)]; exact k11
    · rw [h3 i 22 (by omega) (by decide) (by decide)]
      rcases k12 with q | ⟨y1, y2, y3⟩
      · exact Or.inl q
      · exact Or.inr ⟨y1, fun k hk => by rw [h3 i (17 + k) (by omega) (by omega) (by omega)]; exact y2 k hk, y3⟩
  · obtain ⟨k1, k2⟩ := hO i hi
    exact ⟨fun f hf => by rw [h4 i f hf]; exact k1 f hf, k2⟩
  · obtain ⟨k1, k2⟩ := hE i hi
    exact ⟨fun f hf => by rw [h5 i f hf]; exact k1 f hf, k2⟩
  · obtain ⟨k1, k2⟩ := hC i hi
    exact ⟨fun f hf => by rw [h6 i f hf]; exact k1 f hf, k2⟩
  · obtain ⟨k1, k2, k3⟩ := hK i hi
    exact ⟨fun f hf => by rw [h7 i f (by omega) (by omega)]; exact k1 f hf, by rw [h7 i 6 (by omega) (by decide)]; exact k2, k3⟩
  · obtain ⟨k1, k2⟩ := hW i hi
    exact ⟨fun f hf => by rw [h8 i f (by omega) hf]; exact k1 f hf, k2⟩
  · obtain ⟨N, e1, hN, hw0, hm, hU1, hU, hL⟩ := hP p hp
    refine ⟨N, e1, hN, hw0, hm, hU1, by rw [h0 (14 + p) (by omega)]; exact hU, fun k hk => ?_⟩
    obtain ⟨l1, l2⟩ := hL k hk
    have hpm : p % 4 < 4 := Nat.mod_lt _ (by decide)
    refine ⟨fun j hj1 hj2 => ?_, ?_⟩
    · show zwr (A' (10 + p % 4) (k + j) 0) (A' (10 + p % 4) (k + j) 1) _ _
      rw [hpp _ _ 0 hpm (by decide), hpp _ _ 1 hpm (by decide)]
      exact l1 j hj1 hj2
    · show zsr _ _ _ _ _ (A' (10 + p % 4) _ 0) (A' (10 + p % 4) _ 1)
      rw [hpp _ _ 0 hpm (by decide), hpp _ _ 1 hpm (by decide)]
      exact l2

theorem pr_run (d L : Nat) (C : zCt) (hR : zRep C) (x : Int32) : zPair d 128 203 [.ref 1, .int x, zmk, zmk] [.ref 201, .int x, zmk] L C := by
  have hW : zWW C C := hR.1
  rintro ⟨p0, p2, r2, r3, s4⟩
  obtain ⟨w, hG, _⟩ := id hW
  obtain ⟨td, htd3, htd⟩ := hG.2.1
  have ht0 : C 0 0 0 = nI td := (hG.1 0 (by decide)).trans htd
  by_cases h1 : 1 ≤ x ∧ x ≤ 30
  · obtain ⟨n, hn0, rfl⟩ := nI_of (x := x) (Int32.not_lt.mpr (Int32.le_trans (by decide) h1.1))
    have hn : n ≤ 30 := Nat.le_of_not_lt (fun q => nI_ge (a := 30) (b := n) q hn0 h1.2)
    by_cases h2 : td + n ≤ 3000
    · have c2 : nI (td + n) ≤ 3000 := nI_le (b := 3000) h2 (by decide)
      obtain ⟨A1, B1, q2, q3, a1, _, _, a4, _⟩ := RUNL (d + 90) (d + 91) L p0 p2 r2 r3 s4 n hn n 0 td C C r2 r3 zmk hW htd (by omega) h2
      have hW2 : zWW C A1 := zWW_f hW (fun _ _ => rfl) (fun g h1 h2 => a4 g ⟨by omega, by omega, by omega⟩)
      obtain ⟨A2, B2, q2', q3', b1, b2, b3, b4, b5⟩ := RUNL (d + 90) (d + 91) L p0 p2 q2 q3 s4 n hn n 0 td C A1 r2 r3 zmk hW2 (by rw [a4 40 ⟨by omega, by omega, by omega⟩]; exact htd) (by omega) h2
      have hA0 : A1 40 0 0 = nI td := by rw [a4 40 ⟨by omega, by omega, by omega⟩]; exact htd
      rw [a1] at b1
      have e1 : zI A1 = zI A2 := by
        injection b1 with b1
        injection b1 with _ b1
        injection b1 with _ b1
        injection b1 with b1 _
      have hB : ∀ g, ¬ (g < 10) → ¬ (40 ≤ g ∧ g < 50) → g ≠ 392 → g ≠ 393 → g ≠ 410 → g ≠ 411 → B2 g = C g := fun g k1 k2 k3 k4 k5 k6 => by rw [b5 g ⟨k2, k5, k6⟩, a4 g ⟨k1, k3, k4⟩]
      refine ⟨nI (td + n), A1, (p0, p2, q2, q3, s4), ?_, B2, ?_, ⟨zWW_f (zWW_c b3 e1) (fun g hg => b5 g ⟨by omega, by omega, by omega⟩) (fun _ _ _ => rfl), ?_⟩, hB 100 (by decide) (by decide) (by decide) (by decide) (by decide) (by decide)⟩
      · rw [← a1]
        simp +decide (disch := omega) only [e128_0, e128_7, e128_13, e128_31, T107, h1, ht0, c2, zn0, zpre, ite_self, zs1, zs2, zs3, zI_eqb, and_self, not_true_eq_false, if_true, if_false, ite_true, ite_false, not_false_eq_true, zBP, zBZ, zisO, zisA, zlen, decide_true, decide_false, Bool.and_self, Bool.and_true, Bool.true_and, cond_true, cond_false, zBG, zBR, zBU, zBV, zinb_n, zix_n, zlA, zlB, zlM, zlN, zlX, zlI, nI_add, Nat.add_eq_zero_iff, false_and, and_false, and_true, true_and, true_or, or_true, false_or, or_false, zbool_i, zb0, zb1, zshp_0, zcs_eq, zcs_n, zcs_cs, zup_g, zup_n, zp2_sun, zp2_rock, zp2_tug, zp2_contract, zp2_window, zp2_code, zp2_rbody, zp2_rstock, zp2_tfree, zp2_thold, zp2_tknown, zp2_ccells, zsh2_sun, zsh2_rock, zsh2_body, zsh2_stock, zsh2_tug, zsh2_free, zsh2_hold, zsh2_known, zsh2_contract, zsh2_window, zsh2_code, zsh2_cells, zg_nsun0, zg_nsun1, zg_nsun2, zg_nrock0, zg_nrock1, zg_nrock2, zg_nrock3, zg_nrock4, zg_nrock5, zg_nrock6, zg_nrock7, zg_nrock8, zg_nrock9, zg_nrock10, zg_nrock11, zg_nrock12, zg_nrock13, zg_nrock14, zg_ntug0, zg_ntug1, zg_ntug2, zg_ntug3, zg_ntug4, zg_ntug5, zg_ntug6, zg_ntug7, zg_ntug8, zg_ntug9, zg_ntug10, zg_ntug11, zg_ntug12, zg_ntug13, zg_ntug14, zg_ntug15, zg_ntug17, zg_ntug18, zg_ntug19, zg_ntug20, zg_ntug21, zg_ntug22, zg_ncon0, zg_ncon1, zg_ncon2, zg_ncon3, zg_ncon4, zg_ncon5, zg_ncon6, zg_nwin0, zg_nwin1, zg_nwin2, zg_nwin3, zg_nwin4, zg_nwin5, zg_ncode0, zg_ncode1, zg_ncode3, zg_nrule, zg_nstock, zg_nhold, zg_nknown, zg_nord, zg_nrep, zg_ncla, zg_ntou, zg_ncel, zu_nsun0, zu_nsun1, zu_nsun2, zu_nrock0, zu_nrock1, zu_nrock2, zu_nrock3, zu_nrock4, zu_nrock5, zu_nrock6, zu_nrock7, zu_nrock8, zu_nrock9, zu_nrock10, zu_nrock11, zu_nrock12, zu_nrock13, zu_nrock14, zu_ntug0, zu_ntug1, zu_ntug2, zu_ntug3, zu_ntug4, zu_ntug5, zu_ntug6, zu_ntug7, zu_ntug8, zu_ntug9, zu_ntug10, zu_ntug11, zu_ntug12, zu_ntug13, zu_ntug14, zu_ntug15, zu_ntug17, zu_ntug18, zu_ntug19, zu_ntug20, zu_ntug21, zu_ntug22, zu_ncon0, zu_ncon1, zu_ncon2, zu_ncon3, zu_ncon4, zu_ncon5, zu_ncon6, zu_nwin0, zu_nwin1, zu_nwin2, zu_nwin3, zu_nwin4, zu_nwin5, zu_ncode3, zu_nrule, zu_nstock, zu_nhold, zu_nknown, zu_nord, zu_nrep, zu_ncla, zu_ntou, zu_ncel]
      · rw [← b2]
        simp +decide (disch := omega) only [e203_0, e203_7, e203_13, e203_30, T154, h1, hA0, c2, zn0, zpre, ite_self, Nat.reduceAdd, zs1, zs2, zs3, zI_eqb, and_self, not_true_eq_false, if_true, if_false, ite_true, ite_false, not_false_eq_true, zBP, zBZ, zisO, zisA, zlen, decide_true, decide_false, Bool.and_self, Bool.and_true, Bool.true_and, cond_true, cond_false, zBG, zBR, zBU, zBV, zinb_n, zix_n, zlA, zlB, zlM, zlN, zlX, zlI, nI_add, Nat.add_eq_zero_iff, false_and, and_false, and_true, true_and, true_or, or_true, false_or, or_false, zbool_i, zb0, zb1, zshp_0, zcs_eq, zcs_n, zcs_cs, zup_g, zup_n, zg_srock2, zg_stug2, zg_ssun, zg_ssun0, zg_srock, zg_srock0, zg_stug, zg_stug0, zg_sord, zg_sord0, zg_srep, zg_srep0, zg_scla, zg_scla0, zg_scon, zg_scon0, zg_swin, zg_swin0, zg_sleg, zg_sleg0, zg_spro, zg_sstp, zg_swrd, zu_srock2, zu_stug2, zu_ssun, zu_ssun0, zu_srock, zu_srock0, zu_stug, zu_stug0, zu_sord, zu_sord0, zu_srep, zu_srep0, zu_scla, zu_scla0, zu_scon, zu_scon0, zu_swin, zu_swin0, zu_sleg, zu_sleg0, zu_spro, zu_sstp, zu_swrd]
      · have h2 := hR.2
        simp (disch := omega) only [hB]
        exact h2
    · have c2 : ¬ nI (td + n) ≤ 3000 := nI_ge (a := 3000) (by omega) (by omega)
      simp +decide (disch := omega) only [e128_0, e128_7, e128_13, e128_28, T107, h1, ht0, c2, zpre, ite_self, zs1, zs2, zs3, zI_eqb, and_self, not_true_eq_false, if_true, if_false, ite_true, ite_false, not_false_eq_true, zBP, zBZ, zisO, zisA, zlen, decide_true, decide_false, Bool.and_self, Bool.and_true, Bool.true_and, cond_true, cond_false, zBG, zBR, zBU, zBV, zinb_n, zix_n, zlA, zlB, zlM, zlN, zlX, zlI, nI_add, Nat.add_eq_zero_iff, false_and, and_false, and_true, true_and, true_or, or_true, false_or, or_false, zbool_i, zb0, zb1, zshp_0, zcs_eq, zcs_n, zcs_cs, zup_g, zup_n, zp2_sun, zp2_rock, zp2_tug, zp2_contract, zp2_window, zp2_code, zp2_rbody, zp2_rstock, zp2_tfree, zp2_thold, zp2_tknown, zp2_ccells, zsh2_sun, zsh2_rock, zsh2_body, zsh2_stock, zsh2_tug, zsh2_free, zsh2_hold, zsh2_known, zsh2_contract, zsh2_window, zsh2_code, zsh2_cells, zg_nsun0, zg_nsun1, zg_nsun2, zg_nrock0, zg_nrock1, zg_nrock2, zg_nrock3, zg_nrock4, zg_nrock5, zg_nrock6, zg_nrock7, zg_nrock8, zg_nrock9, zg_nrock10, zg_nrock11, zg_nrock12, zg_nrock13, zg_nrock14, zg_ntug0, zg_ntug1, zg_ntug2, zg_ntug3, zg_ntug4, zg_ntug5, zg_ntug6, zg_ntug7, zg_ntug8, zg_ntug9, zg_ntug10, zg_ntug11, zg_ntug12, zg_ntug13, zg_ntug14, zg_ntug15, zg_ntug17, zg_ntug18, zg_ntug19, zg_ntug20, zg_ntug21, zg_ntug22, zg_ncon0, zg_ncon1, zg_ncon2, zg_ncon3, zg_ncon4, zg_ncon5, zg_ncon6, zg_nwin0, zg_nwin1, zg_nwin2, zg_nwin3, zg_nwin4, zg_nwin5, zg_ncode0, zg_ncode1, zg_ncode3, zg_nrule, zg_nstock, zg_nhold, zg_nknown, zg_nord, zg_nrep, zg_ncla, zg_ntou, zg_ncel, zu_nsun0, zu_nsun1, zu_nsun2, zu_nrock0, zu_nrock1, zu_nrock2, zu_nrock3, zu_nrock4, zu_nrock5, zu_nrock6, zu_nrock7, zu_nrock8, zu_nrock9, zu_nrock10, zu_nrock11, zu_nrock12, zu_nrock13, zu_nrock14, zu_ntug0, zu_ntug1, zu_ntug2, zu_ntug3, zu_ntug4, zu_ntug5, zu_ntug6, zu_ntug7, zu_ntug8, zu_ntug9, zu_ntug10, zu_ntug11, zu_ntug12, zu_ntug13, zu_ntug14, zu_ntug15, zu_ntug17, zu_ntug18, zu_ntug19, zu_ntug20, zu_ntug21, zu_ntug22, zu_ncon0, zu_ncon1, zu_ncon2, zu_ncon3, zu_ncon4, zu_ncon5, zu_ncon6, zu_nwin0, zu_nwin1, zu_nwin2, zu_nwin3, zu_nwin4, zu_nwin5, zu_ncode3, zu_nrule, zu_nstock, zu_nhold, zu_nknown, zu_nord, zu_nrep, zu_ncla, zu_ntou, zu_ncel]
      refine ⟨_, _, (p0, p2, r2, r3, s4), rfl, ?_⟩
      simp +decide (disch := omega) only [e203_0, e203_7, e203_13, e203_27, T154, h1, htd, c2, zpre, ite_self, Nat.reduceAdd, zs1, zs2, zs3, zI_eqb, and_self, not_true_eq_false, if_true, if_false, ite_true, ite_false, not_false_eq_true, zBP, zBZ, zisO, zisA, zlen, decide_true, decide_false, Bool.and_self, Bool.and_true, Bool.true_and, cond_true, cond_false, zBG, zBR, zBU, zBV, zinb_n, zix_n, zlA, zlB, zlM, zlN, zlX, zlI, nI_add, Nat.add_eq_zero_iff, false_and, and_false, and_true, true_and, true_or, or_true, false_or, or_false, zbool_i, zb0, zb1, zshp_0, zcs_eq, zcs_n, zcs_cs, zup_g, zup_n, zg_srock2, zg_stug2, zg_ssun, zg_ssun0, zg_srock, zg_srock0, zg_stug, zg_stug0, zg_sord, zg_sord0, zg_srep, zg_srep0, zg_scla, zg_scla0, zg_scon, zg_scon0, zg_swin, zg_swin0, zg_sleg, zg_sleg0, zg_spro, zg_sstp, zg_swrd, zu_srock2, zu_stug2, zu_ssun, zu_ssun0, zu_srock, zu_srock0, zu_stug, zu_stug0, zu_sord, zu_sord0, zu_srep, zu_srep0, zu_scla, zu_scla0, zu_scon, zu_scon0, zu_swin, zu_swin0, zu_sleg, zu_sleg0, zu_spro, zu_sstp, zu_swrd]
      exact ⟨_, rfl, hR, rfl⟩
  · simp +decide (disch := omega) only [e128_0, e128_7, e128_10, T107, h1, zpre, ite_self, zs1, zs2, zs3, zI_eqb, and_self, not_true_eq_false, if_true, if_false, ite_true, ite_false, not_false_eq_true, zBP, zBZ, zisO, zisA, zlen, decide_true, decide_false, Bool.and_self, Bool.and_true, Bool.true_and, cond_true, cond_false, zBG, zBR, zBU, zBV, zinb_n, zix_n, zlA, zlB, zlM, zlN, zlX, zlI, nI_add, Nat.add_eq_zero_iff, false_and, and_false, and_true, true_and, true_or, or_true, false_or, or_false, zbool_i, zb0, zb1, zshp_0, zcs_eq, zcs_n, zcs_cs, zup_g, zup_n, zp2_sun, zp2_rock, zp2_tug, zp2_contract, zp2_window, zp2_code, zp2_rbody, zp2_rstock, zp2_tfree, zp2_thold, zp2_tknown, zp2_ccells, zsh2_sun, zsh2_rock, zsh2_body, zsh2_stock, zsh2_tug, zsh2_free, zsh2_hold, zsh2_known, zsh2_contract, zsh2_window, zsh2_code, zsh2_cells, zg_nsun0, zg_nsun1, zg_nsun2, zg_nrock0, zg_nrock1, zg_nrock2, zg_nrock3, zg_nrock4, zg_nrock5, zg_nrock6, zg_nrock7, zg_nrock8, zg_nrock9, zg_nrock10, zg_nrock11, zg_nrock12, zg_nrock13, zg_nrock14, zg_ntug0, zg_ntug1, zg_ntug2, zg_ntug3, zg_ntug4, zg_ntug5, zg_ntug6, zg_ntug7, zg_ntug8, zg_ntug9, zg_ntug10, zg_ntug11, zg_ntug12, zg_ntug13, zg_ntug14, zg_ntug15, zg_ntug17, zg_ntug18, zg_ntug19, zg_ntug20, zg_ntug21, zg_ntug22, zg_ncon0, zg_ncon1, zg_ncon2, zg_ncon3, zg_ncon4, zg_ncon5, zg_ncon6, zg_nwin0, zg_nwin1, zg_nwin2, zg_nwin3, zg_nwin4, zg_nwin5, zg_ncode0, zg_ncode1, zg_ncode3, zg_nrule, zg_nstock, zg_nhold, zg_nknown, zg_nord, zg_nrep, zg_ncla, zg_ntou, zg_ncel, zu_nsun0, zu_nsun1, zu_nsun2, zu_nrock0, zu_nrock1, zu_nrock2, zu_nrock3, zu_nrock4, zu_nrock5, zu_nrock6, zu_nrock7, zu_nrock8, zu_nrock9, zu_nrock10, zu_nrock11, zu_nrock12, zu_nrock13, zu_nrock14, zu_ntug0, zu_ntug1, zu_ntug2, zu_ntug3, zu_ntug4, zu_ntug5, zu_ntug6, zu_ntug7, zu_ntug8, zu_ntug9, zu_ntug10, zu_ntug11, zu_ntug12, zu_ntug13, zu_ntug14, zu_ntug15, zu_ntug17, zu_ntug18, zu_ntug19, zu_ntug20, zu_ntug21, zu_ntug22, zu_ncon0, zu_ncon1, zu_ncon2, zu_ncon3, zu_ncon4, zu_ncon5, zu_ncon6, zu_nwin0, zu_nwin1, zu_nwin2, zu_nwin3, zu_nwin4, zu_nwin5, zu_ncode3, zu_nrule, zu_nstock, zu_nhold, zu_nknown, zu_nord, zu_nrep, zu_ncla, zu_ntou, zu_ncel]
    refine ⟨_, _, (p0, p2, r2, r3, s4), rfl, ?_⟩
    simp +decide (disch := omega) only [e203_0, e203_7, e203_10, T154, h1, zpre, ite_self, Nat.reduceAdd, zs1, zs2, zs3, zI_eqb, and_self, not_true_eq_false, if_true, if_false, ite_true, ite_false, not_false_eq_true, zBP, zBZ, zisO, zisA, zlen, decide_true, decide_false, Bool.and_self, Bool.and_true, Bool.true_and, cond_true, cond_false, zBG, zBR, zBU, zBV, zinb_n, zix_n, zlA, zlB, zlM, zlN, zlX, zlI, nI_add, Nat.add_eq_zero_iff, false_and, and_false, and_true, true_and, true_or, or_true, false_or, or_false, zbool_i, zb0, zb1, zshp_0, zcs_eq, zcs_n, zcs_cs, zup_g, zup_n, zg_srock2, zg_stug2, zg_ssun, zg_ssun0, zg_srock, zg_srock0, zg_stug, zg_stug0, zg_sord, zg_sord0, zg_srep, zg_srep0, zg_scla, zg_scla0, zg_scon, zg_scon0, zg_swin, zg_swin0, zg_sleg, zg_sleg0, zg_spro, zg_sstp, zg_swrd, zu_srock2, zu_stug2, zu_ssun, zu_ssun0, zu_srock, zu_srock0, zu_stug, zu_stug0, zu_sord, zu_sord0, zu_srep, zu_srep0, zu_scla, zu_scla0, zu_scon, zu_scon0, zu_swin, zu_swin0, zu_sleg, zu_sleg0, zu_spro, zu_sstp, zu_swrd]
    exact ⟨_, rfl, hR, rfl⟩

