/-! THE TOUR: the class goes from a rock, printed by wip/gen/pub22.py -/
theorem T68 (L p0 p2 r2 r3 : Nat) (wd : Nat → Nat → Nat) (K : zGp) (rt e nw nr : Nat) (hDw : zDw wd rt nw nr e) : ∀ (D d many rk dy fu : Nat) (wo se pt : Int32) (pa : zGp) (s : zSt) (C : zCt), many + D = 6 → rk < nr → dy ≤ 2000 → fu ≤ 999 → zDt C wd K rt nw nr → zSk C e many pa pt s →
    ∃ C', zR (d + D + 4) 68 0 [.ref 194, .int (nI rk), .int (nI dy), .int (nI fu), .int wo, .int se, zmk, zmk, zmk, zmk, zmk, zmk, zmk] [] (zZ L, zI C, zPd p0 p2 r2 r3 2) = some (none, (zZ L, zI C', zPd p0 p2 r2 r3 2)) ∧ zFr C C' ∧ zSk C' e many pa pt (zsch wd K rt e nw D many rk dy fu wo se pa s) := by
  obtain ⟨hw16, hr8, hrt50, he2, hwd⟩ := id hDw
  intro D
  induction D with
  | zero =>
    intro d many rk dy fu wo se pt pa s C hm hrk hdy hfu hD hS
    have hm6 : many = 6 := by omega
    subst hm6
    refine ⟨C, ?_, fun _ _ => rfl, hS⟩
    have h5 := hS.1.2.2.2.2.2.2.1
    simp +decide (disch := omega) only [e68_0, e68_7, e68_12, e43_0, h5, zn0, zpre, ite_self, zs1, zs2, zs3, zI_eqb, and_self, not_true_eq_false, if_true, if_false, ite_true, ite_false, not_false_eq_true, zBP, zBZ, zisO, zisA, zlen, decide_true, decide_false, Bool.and_self, Bool.and_true, Bool.true_and, cond_true, cond_false, zBG, zBR, zBU, zBV, zinb_n, zix_n, zlA, zlB, zlM, zlN, zlX, zlI, nI_add, Nat.add_eq_zero_iff, false_and, and_false, and_true, true_and, true_or, or_true, false_or, or_false, zbool_i, zb0, zb1, zshp_0, zcs_eq, zcs_n, zcs_cs, zup_g, zup_n, zp2_sun, zp2_rock, zp2_tug, zp2_contract, zp2_window, zp2_code, zp2_rbody, zp2_rstock, zp2_tfree, zp2_thold, zp2_tknown, zp2_ccells, zsh2_sun, zsh2_rock, zsh2_body, zsh2_stock, zsh2_tug, zsh2_free, zsh2_hold, zsh2_known, zsh2_contract, zsh2_window, zsh2_code, zsh2_cells, zg_nsun0, zg_nsun1, zg_nsun2, zg_nrock0, zg_nrock1, zg_nrock2, zg_nrock3, zg_nrock4, zg_nrock5, zg_nrock6, zg_nrock7, zg_nrock8, zg_nrock9, zg_nrock10, zg_nrock11, zg_nrock12, zg_nrock13, zg_nrock14, zg_ntug0, zg_ntug1, zg_ntug2, zg_ntug3, zg_ntug4, zg_ntug5, zg_ntug6, zg_ntug7, zg_ntug8, zg_ntug9, zg_ntug10, zg_ntug11, zg_ntug12, zg_ntug13, zg_ntug14, zg_ntug15, zg_ntug17, zg_ntug18, zg_ntug19, zg_ntug20, zg_ntug21, zg_ntug22, zg_ncon0, zg_ncon1, zg_ncon2, zg_ncon3, zg_ncon4, zg_ncon5, zg_ncon6, zg_nwin0, zg_nwin1, zg_nwin2, zg_nwin3, zg_nwin4, zg_nwin5, zg_ncode0, zg_ncode1, zg_ncode3, zg_nrule, zg_nstock, zg_nhold, zg_nknown, zg_nord, zg_nrep, zg_ncla, zg_ntou, zg_ncel, zu_nsun0, zu_nsun1, zu_nsun2, zu_nrock0, zu_nrock1, zu_nrock2, zu_nrock3, zu_nrock4, zu_nrock5, zu_nrock6, zu_nrock7, zu_nrock8, zu_nrock9, zu_nrock10, zu_nrock11, zu_nrock12, zu_nrock13, zu_nrock14, zu_ntug0, zu_ntug1, zu_ntug2, zu_ntug3, zu_ntug4, zu_ntug5, zu_ntug6, zu_ntug7, zu_ntug8, zu_ntug9, zu_ntug10, zu_ntug11, zu_ntug12, zu_ntug13, zu_ntug14, zu_ntug15, zu_ntug17, zu_ntug18, zu_ntug19, zu_ntug20, zu_ntug21, zu_ntug22, zu_ncon0, zu_ncon1, zu_ncon2, zu_ncon3, zu_ncon4, zu_ncon5, zu_ncon6, zu_nwin0, zu_nwin1, zu_nwin2, zu_nwin3, zu_nwin4, zu_nwin5, zu_ncode3, zu_nrule, zu_nstock, zu_nhold, zu_nknown, zu_nord, zu_nrep, zu_ncla, zu_ntou, zu_ncel]
  | succ D ihD =>
    intro d many rk dy fu wo se pt pa s C hm hrk hdy hfu hD hS
    rw [show d + (D + 1) + 4 = d + D + 5 by omega]
    have hloop : ∀ (m k : Nat) (s : zSt) (C : zCt) (v7 v8 v9 v10 v11 v12 : Value), k + m = nw → zDt C wd K rt nw nr → zSk C e many pa pt s → ∃ C', zR (d + D + 5) 68 16 [.ref 194, .int (nI rk), .int (nI dy), .int (nI fu), .int wo, .int se, .int (nI k), v7, v8, v9, v10, v11, v12] [] (zZ L, zI C, zPd p0 p2 r2 r3 2) = some (none, (zZ L, zI C', zPd p0 p2 r2 r3 2)) ∧ zFr C C' ∧ zSk C' e many pa pt (zlp (zstep wd K rt e (fun a b c f w x p s => zsch wd K rt e nw D a b c f w x p s) many rk dy fu wo se pa) m k s) := by
      intro m
      induction m with
      | zero =>
        intro k s C v7 v8 v9 v10 v11 v12 hk hD hS
        have hk : k = nw := by omega
        subst hk
        have h1 : nI k ≤ nI k := Int32.le_refl _
        have hn := hD.1
        refine ⟨C, ?_, fun _ _ => rfl, hS⟩
        rw [e68_16v]
        simp +decide (disch := omega) only [e68_311, hn, h1, zpre, ite_self, zs1, zs2, zs3, zI_eqb, and_self, not_true_eq_false, if_true, if_false, ite_true, ite_false, not_false_eq_true, zBP, zBZ, zisO, zisA, zlen, decide_true, decide_false, Bool.and_self, Bool.and_true, Bool.true_and, cond_true, cond_false, zBG, zBR, zBU, zBV, zinb_n, zix_n, zlA, zlB, zlM, zlN, zlX, zlI, nI_add, Nat.add_eq_zero_iff, false_and, and_false, and_true, true_and, true_or, or_true, false_or, or_false, zbool_i, zb0, zb1, zshp_0, zcs_eq, zcs_n, zcs_cs, zup_g, zup_n, zp2_sun, zp2_rock, zp2_tug, zp2_contract, zp2_window, zp2_code, zp2_rbody, zp2_rstock, zp2_tfree, zp2_thold, zp2_tknown, zp2_ccells, zsh2_sun, zsh2_rock, zsh2_body, zsh2_stock, zsh2_tug, zsh2_free, zsh2_hold, zsh2_known, zsh2_contract, zsh2_window, zsh2_code, zsh2_cells, zg_nsun0, zg_nsun1, zg_nsun2, zg_nrock0, zg_nrock1, zg_nrock2, zg_nrock3, zg_nrock4, zg_nrock5, zg_nrock6, zg_nrock7, zg_nrock8, zg_nrock9, zg_nrock10, zg_nrock11, zg_nrock12, zg_nrock13, zg_nrock14, zg_ntug0, zg_ntug1, zg_ntug2, zg_ntug3, zg_ntug4, zg_ntug5, zg_ntug6, zg_ntug7, zg_ntug8, zg_ntug9, zg_ntug10, zg_ntug11, zg_ntug12, zg_ntug13, zg_ntug14, zg_ntug15, zg_ntug17, zg_ntug18, zg_ntug19, zg_ntug20, zg_ntug21, zg_ntug22, zg_ncon0, zg_ncon1, zg_ncon2, zg_ncon3, zg_ncon4, zg_ncon5, zg_ncon6, zg_nwin0, zg_nwin1, zg_nwin2, zg_nwin3, zg_nwin4, zg_nwin5, zg_ncode0, zg_ncode1, zg_ncode3, zg_nrule, zg_nstock, zg_nhold, zg_nknown, zg_nord, zg_nrep, zg_ncla, zg_ntou, zg_ncel, zu_nsun0, zu_nsun1, zu_nsun2, zu_nrock0, zu_nrock1, zu_nrock2, zu_nrock3, zu_nrock4, zu_nrock5, zu_nrock6, zu_nrock7, zu_nrock8, zu_nrock9, zu_nrock10, zu_nrock11, zu_nrock12, zu_nrock13, zu_nrock14, zu_ntug0, zu_ntug1, zu_ntug2, zu_ntug3, zu_ntug4, zu_ntug5, zu_ntug6, zu_ntug7, zu_ntug8, zu_ntug9, zu_ntug10, zu_ntug11, zu_ntug12, zu_ntug13, zu_ntug14, zu_ntug15, zu_ntug17, zu_ntug18, zu_ntug19, zu_ntug20, zu_ntug21, zu_ntug22, zu_ncon0, zu_ncon1, zu_ncon2, zu_ncon3, zu_ncon4, zu_ncon5, zu_ncon6, zu_nwin0, zu_nwin1, zu_nwin2, zu_nwin3, zu_nwin4, zu_nwin5, zu_ncode3, zu_nrule, zu_nstock, zu_nhold, zu_nknown, zu_nord, zu_nrep, zu_ncla, zu_ntou, zu_ncel]
      | succ m ihm =>
        intro k s C v7 v8 v9 v10 v11 v12 hk hD hS
        have hge : ¬ nI nw ≤ nI k := nI_ge (by omega) (by omega)
        obtain ⟨hn, hrt, hW, hKK⟩ := id hD
        obtain ⟨⟨b2, b3, b5, b6, b7, b8, c5, c7⟩, bpa, bbl, bm6, btl, bbe, bbt⟩ := id hS
        have hk16 : k < 16 := by omega
        obtain ⟨x0, x1, x2, x3, x4, x5⟩ := hwd k (by omega)
        have w0 := hW k (by omega) 0 (by decide)
        have w1 := hW k (by omega) 1 (by decide)
        have w2 := hW k (by omega) 2 (by decide)
        have w3 := hW k (by omega) 3 (by decide)
        have w4 := hW k (by omega) 4 (by decide)
        have w5 := hW k (by omega) 5 (by decide)
        unfold zlp
        by_cases hsp : s.2.1 = true
        · rw [if_pos hsp] at b7
          refine ⟨C, ?_, fun _ _ => rfl, by rw [if_pos hsp]; exact hS⟩
          rw [e68_16v]
          simp +decide (disch := omega) only [e68_28, e68_311, hn, hge, b7, zpre, ite_self, zs1, zs2, zs3, zI_eqb, and_self, not_true_eq_false, if_true, if_false, ite_true, ite_false, not_false_eq_true, zBP, zBZ, zisO, zisA, zlen, decide_true, decide_false, Bool.and_self, Bool.and_true, Bool.true_and, cond_true, cond_false, zBG, zBR, zBU, zBV, zinb_n, zix_n, zlA, zlB, zlM, zlN, zlX, zlI, nI_add, Nat.add_eq_zero_iff, false_and, and_false, and_true, true_and, true_or, or_true, false_or, or_false, zbool_i, zb0, zb1, zshp_0, zcs_eq, zcs_n, zcs_cs, zup_g, zup_n, zp2_sun, zp2_rock, zp2_tug, zp2_contract, zp2_window, zp2_code, zp2_rbody, zp2_rstock, zp2_tfree, zp2_thold, zp2_tknown, zp2_ccells, zsh2_sun, zsh2_rock, zsh2_body, zsh2_stock, zsh2_tug, zsh2_free, zsh2_hold, zsh2_known, zsh2_contract, zsh2_window, zsh2_code, zsh2_cells, zg_nsun0, zg_nsun1, zg_nsun2, zg_nrock0, zg_nrock1, zg_nrock2, zg_nrock3, zg_nrock4, zg_nrock5, zg_nrock6, zg_nrock7, zg_nrock8, zg_nrock9, zg_nrock10, zg_nrock11, zg_nrock12, zg_nrock13, zg_nrock14, zg_ntug0, zg_ntug1, zg_ntug2, zg_ntug3, zg_ntug4, zg_ntug5, zg_ntug6, zg_ntug7, zg_ntug8, zg_ntug9, zg_ntug10, zg_ntug11, zg_ntug12, zg_ntug13, zg_ntug14, zg_ntug15, zg_ntug17, zg_ntug18, zg_ntug19, zg_ntug20, zg_ntug21, zg_ntug22, zg_ncon0, zg_ncon1, zg_ncon2, zg_ncon3, zg_ncon4, zg_ncon5, zg_ncon6, zg_nwin0, zg_nwin1, zg_nwin2, zg_nwin3, zg_nwin4, zg_nwin5, zg_ncode0, zg_ncode1, zg_ncode3, zg_nrule, zg_nstock, zg_nhold, zg_nknown, zg_nord, zg_nrep, zg_ncla, zg_ntou, zg_ncel, zu_nsun0, zu_nsun1, zu_nsun2, zu_nrock0, zu_nrock1, zu_nrock2, zu_nrock3, zu_nrock4, zu_nrock5, zu_nrock6, zu_nrock7, zu_nrock8, zu_nrock9, zu_nrock10, zu_nrock11, zu_nrock12, zu_nrock13, zu_nrock14, zu_ntug0, zu_ntug1, zu_ntug2, zu_ntug3, zu_ntug4, zu_ntug5, zu_ntug6, zu_ntug7, zu_ntug8, zu_ntug9, zu_ntug10, zu_ntug11, zu_ntug12, zu_ntug13, zu_ntug14, zu_ntug15, zu_ntug17, zu_ntug18, zu_ntug19, zu_ntug20, zu_ntug21, zu_ntug22, zu_ncon0, zu_ncon1, zu_ncon2, zu_ncon3, zu_ncon4, zu_ncon5, zu_ncon6, zu_nwin0, zu_nwin1, zu_nwin2, zu_nwin3, zu_nwin4, zu_nwin5, zu_ncode3, zu_nrule, zu_nstock, zu_nhold, zu_nknown, zu_nord, zu_nrep, zu_ncla, zu_ntou, zu_ncel]
        rw [if_neg hsp] at b7
        rw [if_neg hsp]
        have hskip : ¬ zok wd K rt e k many pa rk dy fu → zstep wd K rt e (fun a b c f w x p s => zsch wd K rt e nw D a b c f w x p s) many rk dy fu wo se pa k s = s := fun h => by
          unfold zstep
          rw [if_neg h]
        have hl : (if nI dy < nI (wd k 2) then nI (wd k 2) else nI dy) = nI (zlv wd k dy) := zmxn (by omega) (by omega)
        have hlv : zlv wd k dy ≤ 2000 ∧ dy ≤ zlv wd k dy := by unfold zlv; omega
        rw [e68_16v]
        by_cases f1 : wd k 0 = rk
        case neg =>
          have g1 : ¬ nI (wd k 0) = nI rk := fun h => f1 ((nI_eq (by omega) (by omega)).mp h)
          rw [hskip (fun h => f1 h.1)]
          obtain ⟨C', z1, z2⟩ := ihm (k + 1) s C (.ref (69 + k)) v8 v9 v10 v11 v12 (by omega) hD hS
          refine ⟨C', ?_, z2⟩
          rw [← z1]
          simp +decide (disch := omega) only [e68_28, e68_35, e68_56, e68_68, e68_71, e68_102, e68_111, e68_114, e68_124, e68_137, e68_305, hn, hge, b7, w0, g1, zpre, ite_self, zs1, zs2, zs3, zI_eqb, and_self, not_true_eq_false, if_true, if_false, ite_true, ite_false, not_false_eq_true, zBP, zBZ, zisO, zisA, zlen, decide_true, decide_false, Bool.and_self, Bool.and_true, Bool.true_and, cond_true, cond_false, zBG, zBR, zBU, zBV, zinb_n, zix_n, zlA, zlB, zlM, zlN, zlX, zlI, nI_add, Nat.add_eq_zero_iff, false_and, and_false, and_true, true_and, true_or, or_true, false_or, or_false, zbool_i, zb0, zb1, zshp_0, zcs_eq, zcs_n, zcs_cs, zup_g, zup_n, zp2_sun, zp2_rock, zp2_tug, zp2_contract, zp2_window, zp2_code, zp2_rbody, zp2_rstock, zp2_tfree, zp2_thold, zp2_tknown, zp2_ccells, zsh2_sun, zsh2_rock, zsh2_body, zsh2_stock, zsh2_tug, zsh2_free, zsh2_hold, zsh2_known, zsh2_contract, zsh2_window, zsh2_code, zsh2_cells, zg_nsun0, zg_nsun1, zg_nsun2, zg_nrock0, zg_nrock1, zg_nrock2, zg_nrock3, zg_nrock4, zg_nrock5, zg_nrock6, zg_nrock7, zg_nrock8, zg_nrock9, zg_nrock10, zg_nrock11, zg_nrock12, zg_nrock13, zg_nrock14, zg_ntug0, zg_ntug1, zg_ntug2, zg_ntug3, zg_ntug4, zg_ntug5, zg_ntug6, zg_ntug7, zg_ntug8, zg_ntug9, zg_ntug10, zg_ntug11, zg_ntug12, zg_ntug13, zg_ntug14, zg_ntug15, zg_ntug17, zg_ntug18, zg_ntug19, zg_ntug20, zg_ntug21, zg_ntug22, zg_ncon0, zg_ncon1, zg_ncon2, zg_ncon3, zg_ncon4, zg_ncon5, zg_ncon6, zg_nwin0, zg_nwin1, zg_nwin2, zg_nwin3, zg_nwin4, zg_nwin5, zg_ncode0, zg_ncode1, zg_ncode3, zg_nrule, zg_nstock, zg_nhold, zg_nknown, zg_nord, zg_nrep, zg_ncla, zg_ntou, zg_ncel, zu_nsun0, zu_nsun1, zu_nsun2, zu_nrock0, zu_nrock1, zu_nrock2, zu_nrock3, zu_nrock4, zu_nrock5, zu_nrock6, zu_nrock7, zu_nrock8, zu_nrock9, zu_nrock10, zu_nrock11, zu_nrock12, zu_nrock13, zu_nrock14, zu_ntug0, zu_ntug1, zu_ntug2, zu_ntug3, zu_ntug4, zu_ntug5, zu_ntug6, zu_ntug7, zu_ntug8, zu_ntug9, zu_ntug10, zu_ntug11, zu_ntug12, zu_ntug13, zu_ntug14, zu_ntug15, zu_ntug17, zu_ntug18, zu_ntug19, zu_ntug20, zu_ntug21, zu_ntug22, zu_ncon0, zu_ncon1, zu_ncon2, zu_ncon3, zu_ncon4, zu_ncon5, zu_ncon6, zu_nwin0, zu_nwin1, zu_nwin2, zu_nwin3, zu_nwin4, zu_nwin5, zu_ncode3, zu_nrule, zu_nstock, zu_nhold, zu_nknown, zu_nord, zu_nrep, zu_ncla, zu_ntou, zu_ncel]
        have g1 : nI (wd k 0) = nI rk := by rw [f1]
        by_cases f2 : ∀ j, j < many → pa j 0 ≠ nI k
        case neg =>
          have g2 : ¬ ((pt >>> (nI k &&& 31)) &&& 1) = 0 := fun h => f2 ((bbt k hk16).mp h)
          rw [hskip (fun h => f2 h.2.1)]
          obtain ⟨C', z1, z2⟩ := ihm (k + 1) s C (.ref (69 + k)) v8 v9 v10 v11 v12 (by omega) hD hS
          refine ⟨C', ?_, z2⟩
          rw [← z1]
          simp +decide (disch := omega) only [e68_28, e68_35, e68_56, e68_68, e68_71, e68_102, e68_111, e68_114, e68_124, e68_137, e68_305, hn, hge, b7, b8, w0, g1, g2, zpre, ite_self, zs1, zs2, zs3, zI_eqb, and_self, not_true_eq_false, if_true, if_false, ite_true, ite_false, not_false_eq_true, zBP, zBZ, zisO, zisA, zlen, decide_true, decide_false, Bool.and_self, Bool.and_true, Bool.true_and, cond_true, cond_false, zBG, zBR, zBU, zBV, zinb_n, zix_n, zlA, zlB, zlM, zlN, zlX, zlI, nI_add, Nat.add_eq_zero_iff, false_and, and_false, and_true, true_and, true_or, or_true, false_or, or_false, zbool_i, zb0, zb1, zshp_0, zcs_eq, zcs_n, zcs_cs, zup_g, zup_n, zp2_sun, zp2_rock, zp2_tug, zp2_contract, zp2_window, zp2_code, zp2_rbody, zp2_rstock, zp2_tfree, zp2_thold, zp2_tknown, zp2_ccells, zsh2_sun, zsh2_rock, zsh2_body, zsh2_stock, zsh2_tug, zsh2_free, zsh2_hold, zsh2_known, zsh2_contract, zsh2_window, zsh2_code, zsh2_cells, zg_nsun0, zg_nsun1, zg_nsun2, zg_nrock0, zg_nrock1, zg_nrock2, zg_nrock3, zg_nrock4, zg_nrock5, zg_nrock6, zg_nrock7, zg_nrock8, zg_nrock9, zg_nrock10, zg_nrock11, zg_nrock12, zg_nrock13, zg_nrock14, zg_ntug0, zg_ntug1, zg_ntug2, zg_ntug3, zg_ntug4, zg_ntug5, zg_ntug6, zg_ntug7, zg_ntug8, zg_ntug9, zg_ntug10, zg_ntug11, zg_ntug12, zg_ntug13, zg_ntug14, zg_ntug15, zg_ntug17, zg_ntug18, zg_ntug19, zg_ntug20, zg_ntug21, zg_ntug22, zg_ncon0, zg_ncon1, zg_ncon2, zg_ncon3, zg_ncon4, zg_ncon5, zg_ncon6, zg_nwin0, zg_nwin1, zg_nwin2, zg_nwin3, zg_nwin4, zg_nwin5, zg_ncode0, zg_ncode1, zg_ncode3, zg_nrule, zg_nstock, zg_nhold, zg_nknown, zg_nord, zg_nrep, zg_ncla, zg_ntou, zg_ncel, zu_nsun0, zu_nsun1, zu_nsun2, zu_nrock0, zu_nrock1, zu_nrock2, zu_nrock3, zu_nrock4, zu_nrock5, zu_nrock6, zu_nrock7, zu_nrock8, zu_nrock9, zu_nrock10, zu_nrock11, zu_nrock12, zu_nrock13, zu_nrock14, zu_ntug0, zu_ntug1, zu_ntug2, zu_ntug3, zu_ntug4, zu_ntug5, zu_ntug6, zu_ntug7, zu_ntug8, zu_ntug9, zu_ntug10, zu_ntug11, zu_ntug12, zu_ntug13, zu_ntug14, zu_ntug15, zu_ntug17, zu_ntug18, zu_ntug19, zu_ntug20, zu_ntug21, zu_ntug22, zu_ncon0, zu_ncon1, zu_ncon2, zu_ncon3, zu_ncon4, zu_ncon5, zu_ncon6, zu_nwin0, zu_nwin1, zu_nwin2, zu_nwin3, zu_nwin4, zu_nwin5, zu_ncode3, zu_nrule, zu_nstock, zu_nhold, zu_nknown, zu_nord, zu_nrep, zu_ncla, zu_ntou, zu_ncel]
        have g2 : ((pt >>> (nI k &&& 31)) &&& 1) = 0 := (bbt k hk16).mpr f2
        by_cases f3 : zlv wd k dy ≤ wd k 3
        case neg =>
          have g3 : nI (wd k 3) < nI (zlv wd k dy) := nI_lt (by omega) (by omega)
          have g3b := Int32.not_le.mpr g3
          rw [hskip (fun h => f3 h.2.2.1)]
          obtain ⟨C', z1, z2⟩ := ihm (k + 1) s C (.ref (69 + k)) (.int (nI (zlv wd k dy))) (.int (nI (zlv wd k dy + wd k 5))) v10 v11 v12 (by omega) hD hS
          refine ⟨C', ?_, z2⟩
          rw [← z1]
          simp +decide (disch := omega) only [e68_28, e68_35, e68_56, e68_68, e68_71, e68_102, e68_111, e68_114, e68_124, e68_137, e68_305, hn, hge, b7, b8, w0, w2, w3, w5, g1, g2, hl, g3, g3b, zpre, ite_self, zs1, zs2, zs3, zI_eqb, and_self, not_true_eq_false, if_true, if_false, ite_true, ite_false, not_false_eq_true, zBP, zBZ, zisO, zisA, zlen, decide_true, decide_false, Bool.and_self, Bool.and_true, Bool.true_and, cond_true, cond_false, zBG, zBR, zBU, zBV, zinb_n, zix_n, zlA, zlB, zlM, zlN, zlX, zlI, nI_add, Nat.add_eq_zero_iff, false_and, and_false, and_true, true_and, true_or, or_true, false_or, or_false, zbool_i, zb0, zb1, zshp_0, zcs_eq, zcs_n, zcs_cs, zup_g, zup_n, zp2_sun, zp2_rock, zp2_tug, zp2_contract, zp2_window, zp2_code, zp2_rbody, zp2_rstock, zp2_tfree, zp2_thold, zp2_tknown, zp2_ccells, zsh2_sun, zsh2_rock, zsh2_body, zsh2_stock, zsh2_tug, zsh2_free, zsh2_hold, zsh2_known, zsh2_contract, zsh2_window, zsh2_code, zsh2_cells, zg_nsun0, zg_nsun1, zg_nsun2, zg_nrock0, zg_nrock1, zg_nrock2, zg_nrock3, zg_nrock4, zg_nrock5, zg_nrock6, zg_nrock7, zg_nrock8, zg_nrock9, zg_nrock10, zg_nrock11, zg_nrock12, zg_nrock13, zg_nrock14, zg_ntug0, zg_ntug1, zg_ntug2, zg_ntug3, zg_ntug4, zg_ntug5, zg_ntug6, zg_ntug7, zg_ntug8, zg_ntug9, zg_ntug10, zg_ntug11, zg_ntug12, zg_ntug13, zg_ntug14, zg_ntug15, zg_ntug17, zg_ntug18, zg_ntug19, zg_ntug20, zg_ntug21, zg_ntug22, zg_ncon0, zg_ncon1, zg_ncon2, zg_ncon3, zg_ncon4, zg_ncon5, zg_ncon6, zg_nwin0, zg_nwin1, zg_nwin2, zg_nwin3, zg_nwin4, zg_nwin5, zg_ncode0, zg_ncode1, zg_ncode3, zg_nrule, zg_nstock, zg_nhold, zg_nknown, zg_nord, zg_nrep, zg_ncla, zg_ntou, zg_ncel, zu_nsun0, zu_nsun1, zu_nsun2, zu_nrock0, zu_nrock1, zu_nrock2, zu_nrock3, zu_nrock4, zu_nrock5, zu_nrock6, zu_nrock7, zu_nrock8, zu_nrock9, zu_nrock10, zu_nrock11, zu_nrock12, zu_nrock13, zu_nrock14, zu_ntug0, zu_ntug1, zu_ntug2, zu_ntug3, zu_ntug4, zu_ntug5, zu_ntug6, zu_ntug7, zu_ntug8, zu_ntug9, zu_ntug10, zu_ntug11, zu_ntug12, zu_ntug13, zu_ntug14, zu_ntug15, zu_ntug17, zu_ntug18, zu_ntug19, zu_ntug20, zu_ntug21, zu_ntug22, zu_ncon0, zu_ncon1, zu_ncon2, zu_ncon3, zu_ncon4, zu_ncon5, zu_ncon6, zu_nwin0, zu_nwin1, zu_nwin2, zu_nwin3, zu_nwin4, zu_nwin5, zu_ncode3, zu_nrule, zu_nstock, zu_nhold, zu_nknown, zu_nord, zu_nrep, zu_ncla, zu_ntou, zu_ncel]
        have g3 : ¬ nI (wd k 3) < nI (zlv wd k dy) := nI_nlt f3 (by omega)
        have g3b := Int32.not_lt.mp g3
        by_cases f4 : zlv wd k dy + wd k 5 ≤ e
        case neg =>
          have g4 : nI e < nI (zlv wd k dy + wd k 5) := nI_lt (by omega) (by omega)
          have g4b := Int32.not_le.mpr g4
          rw [hskip (fun h => f4 h.2.2.2.1)]
          obtain ⟨C', z1, z2⟩ := ihm (k + 1) s C (.ref (69 + k)) (.int (nI (zlv wd k dy))) (.int (nI (zlv wd k dy + wd k 5))) v10 v11 v12 (by omega) hD hS
          refine ⟨C', ?_, z2⟩
          rw [← z1]
          simp +decide (disch := omega) only [e68_28, e68_35, e68_56, e68_68, e68_71, e68_102, e68_111, e68_114, e68_124, e68_137, e68_305, hn, hge, b7, b8, b5, w0, w2, w3, w5, g1, g2, hl, g3, g3b, g4, g4b, zpre, ite_self, zs1, zs2, zs3, zI_eqb, and_self, not_true_eq_false, if_true, if_false, ite_true, ite_false, not_false_eq_true, zBP, zBZ, zisO, zisA, zlen, decide_true, decide_false, Bool.and_self, Bool.and_true, Bool.true_and, cond_true, cond_false, zBG, zBR, zBU, zBV, zinb_n, zix_n, zlA, zlB, zlM, zlN, zlX, zlI, nI_add, Nat.add_eq_zero_iff, false_and, and_false, and_true, true_and, true_or, or_true, false_or, or_false, zbool_i, zb0, zb1, zshp_0, zcs_eq, zcs_n, zcs_cs, zup_g, zup_n, zp2_sun, zp2_rock, zp2_tug, zp2_contract, zp2_window, zp2_code, zp2_rbody, zp2_rstock, zp2_tfree, zp2_thold, zp2_tknown, zp2_ccells, zsh2_sun, zsh2_rock, zsh2_body, zsh2_stock, zsh2_tug, zsh2_free, zsh2_hold, zsh2_known, zsh2_contract, zsh2_window, zsh2_code, zsh2_cells, zg_nsun0, zg_nsun1, zg_nsun2, zg_nrock0, zg_nrock1, zg_nrock2, zg_nrock3, zg_nrock4, zg_nrock5, zg_nrock6, zg_nrock7, zg_nrock8, zg_nrock9, zg_nrock10, zg_nrock11, zg_nrock12, zg_nrock13, zg_nrock14, zg_ntug0, zg_ntug1, zg_ntug2, zg_ntug3, zg_ntug4, zg_ntug5, zg_ntug6, zg_ntug7, zg_ntug8, zg_ntug9, zg_ntug10, zg_ntug11, zg_ntug12, zg_ntug13, zg_ntug14, zg_ntug15, zg_ntug17, zg_ntug18, zg_ntug19, zg_ntug20, zg_ntug21, zg_ntug22, zg_ncon0, zg_ncon1, zg_ncon2, zg_ncon3, zg_ncon4, zg_ncon5, zg_ncon6, zg_nwin0, zg_nwin1, zg_nwin2, zg_nwin3, zg_nwin4, zg_nwin5, zg_ncode0, zg_ncode1, zg_ncode3, zg_nrule, zg_nstock, zg_nhold, zg_nknown, zg_nord, zg_nrep, zg_ncla, zg_ntou, zg_ncel, zu_nsun0, zu_nsun1, zu_nsun2, zu_nrock0, zu_nrock1, zu_nrock2, zu_nrock3, zu_nrock4, zu_nrock5, zu_nrock6, zu_nrock7, zu_nrock8, zu_nrock9, zu_nrock10, zu_nrock11, zu_nrock12, zu_nrock13, zu_nrock14, zu_ntug0, zu_ntug1, zu_ntug2, zu_ntug3, zu_ntug4, zu_ntug5, zu_ntug6, zu_ntug7, zu_ntug8, zu_ntug9, zu_ntug10, zu_ntug11, zu_ntug12, zu_ntug13, zu_ntug14, zu_ntug15, zu_ntug17, zu_ntug18, zu_ntug19, zu_ntug20, zu_ntug21, zu_ntug22, zu_ncon0, zu_ncon1, zu_ncon2, zu_ncon3, zu_ncon4, zu_ncon5, zu_ncon6, zu_nwin0, zu_nwin1, zu_nwin2, zu_nwin3, zu_nwin4, zu_nwin5, zu_ncode3, zu_nrule, zu_nstock, zu_nhold, zu_nknown, zu_nord, zu_nrep, zu_ncla, zu_ntou, zu_ncel]
        have g4 : ¬ nI e < nI (zlv wd k dy + wd k 5) := nI_nlt f4 (by omega)
        have g4b := Int32.not_lt.mp g4
        have hsub : nI (zlv wd k dy) - nI dy = nI (zlv wd k dy - dy) := nI_sub hlv.2
        have hmul : (zlv wd k dy - dy) * rt ≤ 2000 * 50 := Nat.mul_le_mul (by omega) hrt50
        have h69 := T69 (d + D + 4) L p0 p2 r2 r3 rt nr C K (a := fu) (b := zlv wd k dy - dy) hrk hr8 hrt (hKK rk hrk).1 (by omega)
        have hfw : nI (if K rk 0 = 1 then min 999 (fu + (zlv wd k dy - dy) * rt) else fu) = nI (zfw wd K rt k rk dy fu) := rfl
        rw [hfw] at h69
        have hfw9 : zfw wd K rt k rk dy fu ≤ 999 := by unfold zfw; split <;> omega
        by_cases f5 : wd k 4 ≤ zfw wd K rt k rk dy fu
        case neg =>
          have g5 : nI (zfw wd K rt k rk dy fu) - nI (wd k 4) < 0 := nI_sneg (by omega) (by omega)
          have g5b := Int32.not_le.mpr g5
          rw [hskip (fun h => f5 h.2.2.2.2)]
          obtain ⟨C', z1, z2⟩ := ihm (k + 1) s C (.ref (69 + k)) (.int (nI (zlv wd k dy))) (.int (nI (zlv wd k dy + wd k 5))) (.int (nI (zfw wd K rt k rk dy fu) - nI (wd k 4))) v11 v12 (by omega) hD hS
          refine ⟨C', ?_, z2⟩
          rw [← z1]
          simp +decide (disch := omega) only [e68_28, e68_35, e68_56, e68_68, e68_71, e68_102, e68_111, e68_114, e68_124, e68_137, e68_305, hn, hge, b7, b8, b5, w0, w2, w3, w4, w5, g1, g2, hl, g3, g3b, g4, g4b, hsub, h69, g5, g5b, zpre, ite_self, zs1, zs2, zs3, zI_eqb, and_self, not_true_eq_false, if_true, if_false, ite_true, ite_false, not_false_eq_true, zBP, zBZ, zisO, zisA, zlen, decide_true, decide_false, Bool.and_self, Bool.and_true, Bool.true_and, cond_true, cond_false, zBG, zBR, zBU, zBV, zinb_n, zix_n, zlA, zlB, zlM, zlN, zlX, zlI, nI_add, Nat.add_eq_zero_iff, false_and, and_false, and_true, true_and, true_or, or_true, false_or, or_false, zbool_i, zb0, zb1, zshp_0, zcs_eq, zcs_n, zcs_cs, zup_g, zup_n, zp2_sun, zp2_rock, zp2_tug, zp2_contract, zp2_window, zp2_code, zp2_rbody, zp2_rstock, zp2_tfree, zp2_thold, zp2_tknown, zp2_ccells, zsh2_sun, zsh2_rock, zsh2_body, zsh2_stock, zsh2_tug, zsh2_free, zsh2_hold, zsh2_known, zsh2_contract, zsh2_window, zsh2_code, zsh2_cells, zg_nsun0, zg_nsun1, zg_nsun2, zg_nrock0, zg_nrock1, zg_nrock2, zg_nrock3, zg_nrock4, zg_nrock5, zg_nrock6, zg_nrock7, zg_nrock8, zg_nrock9, zg_nrock10, zg_nrock11, zg_nrock12, zg_nrock13, zg_nrock14, zg_ntug0, zg_ntug1, zg_ntug2, zg_ntug3, zg_ntug4, zg_ntug5, zg_ntug6, zg_ntug7, zg_ntug8, zg_ntug9, zg_ntug10, zg_ntug11, zg_ntug12, zg_ntug13, zg_ntug14, zg_ntug15, zg_ntug17, zg_ntug18, zg_ntug19, zg_ntug20, zg_ntug21, zg_ntug22, zg_ncon0, zg_ncon1, zg_ncon2, zg_ncon3, zg_ncon4, zg_ncon5, zg_ncon6, zg_nwin0, zg_nwin1, zg_nwin2, zg_nwin3, zg_nwin4, zg_nwin5, zg_ncode0, zg_ncode1, zg_ncode3, zg_nrule, zg_nstock, zg_nhold, zg_nknown, zg_nord, zg_nrep, zg_ncla, zg_ntou, zg_ncel, zu_nsun0, zu_nsun1, zu_nsun2, zu_nrock0, zu_nrock1, zu_nrock2, zu_nrock3, zu_nrock4, zu_nrock5, zu_nrock6, zu_nrock7, zu_nrock8, zu_nrock9, zu_nrock10, zu_nrock11, zu_nrock12, zu_nrock13, zu_nrock14, zu_ntug0, zu_ntug1, zu_ntug2, zu_ntug3, zu_ntug4, zu_ntug5, zu_ntug6, zu_ntug7, zu_ntug8, zu_ntug9, zu_ntug10, zu_ntug11, zu_ntug12, zu_ntug13, zu_ntug14, zu_ntug15, zu_ntug17, zu_ntug18, zu_ntug19, zu_ntug20, zu_ntug21, zu_ntug22, zu_ncon0, zu_ncon1, zu_ncon2, zu_ncon3, zu_ncon4, zu_ncon5, zu_ncon6, zu_nwin0, zu_nwin1, zu_nwin2, zu_nwin3, zu_nwin4, zu_nwin5, zu_ncode3, zu_nrule, zu_nstock, zu_nhold, zu_nknown, zu_nord, zu_nrep, zu_ncla, zu_ntou, zu_ncel]
        have hsub2 : nI (zfw wd K rt k rk dy fu) - nI (wd k 4) = nI (zfw wd K rt k rk dy fu - wd k 4) := nI_sub f5
        have g5 : ¬ nI (zfw wd K rt k rk dy fu - wd k 4) < 0 := nI_pos (by omega)
        have g5b := Int32.not_lt.mp g5
        have hok : zok wd K rt e k many pa rk dy fu := ⟨f1, f2, f3, f4, f5⟩
        have hstep := (show zstep wd K rt e (fun a b c f w x p s => zsch wd K rt e nw D a b c f w x p s) many rk dy fu wo se pa k s = _ from if_pos hok)
        dsimp only at hstep
        rw [hstep]
        obtain ⟨LV, hLV⟩ : ∃ LV, LV = zlv wd k dy := ⟨_, rfl⟩
        obtain ⟨FW, hFW⟩ : ∃ FW, FW = zfw wd K rt k rk dy fu := ⟨_, rfl⟩
        rw [← hLV, ← hFW]
        rw [← hLV] at hl hlv g3 g3b g4 g4b hsub h69 f4
        rw [← hFW] at h69 hsub2 g5 g5b hfw9
        by_cases ht : s.1 = 0
        · have b6' : C 394 0 6 = 0 := by rw [b6, ht]; rfl
          rw [if_pos ht]
          refine ⟨zcs C 394 (zup (C 394) 0 7 1), ?_, fun g hg => zcs_n _ _ (by omega), ?_⟩
          · simp +decide (disch := omega) only [e68_28, e68_35, e68_56, e68_68, e68_71, e68_102, e68_111, e68_114, e68_124, e68_137, e68_305, e68_140, e68_148, hn, hge, b7, b8, b5, w0, w1, w2, w3, w4, w5, g1, g2, hl, g3, g3b, g4, g4b, hsub, h69, hsub2, g5, g5b, b6', zpre, ite_self, zs1, zs2, zs3, zI_eqb, and_self, not_true_eq_false, if_true, if_false, ite_true, ite_false, not_false_eq_true, zBP, zBZ, zisO, zisA, zlen, decide_true, decide_false, Bool.and_self, Bool.and_true, Bool.true_and, cond_true, cond_false, zBG, zBR, zBU, zBV, zinb_n, zix_n, zlA, zlB, zlM, zlN, zlX, zlI, nI_add, Nat.add_eq_zero_iff, false_and, and_false, and_true, true_and, true_or, or_true, false_or, or_false, zbool_i, zb0, zb1, zshp_0, zcs_eq, zcs_n, zcs_cs, zup_g, zup_n, zp2_sun, zp2_rock, zp2_tug, zp2_contract, zp2_window, zp2_code, zp2_rbody, zp2_rstock, zp2_tfree, zp2_thold, zp2_tknown, zp2_ccells, zsh2_sun, zsh2_rock, zsh2_body, zsh2_stock, zsh2_tug, zsh2_free, zsh2_hold, zsh2_known, zsh2_contract, zsh2_window, zsh2_code, zsh2_cells, zg_nsun0, zg_nsun1, zg_nsun2, zg_nrock0, zg_nrock1, zg_nrock2, zg_nrock3, zg_nrock4, zg_nrock5, zg_nrock6, zg_nrock7, zg_nrock8, zg_nrock9, zg_nrock10, zg_nrock11, zg_nrock12, zg_nrock13, zg_nrock14, zg_ntug0, zg_ntug1, zg_ntug2, zg_ntug3, zg_ntug4, zg_ntug5, zg_ntug6, zg_ntug7, zg_ntug8, zg_ntug9, zg_ntug10, zg_ntug11, zg_ntug12, zg_ntug13, zg_ntug14, zg_ntug15, zg_ntug17, zg_ntug18, zg_ntug19, zg_ntug20, zg_ntug21, zg_ntug22, zg_ncon0, zg_ncon1, zg_ncon2, zg_ncon3, zg_ncon4, zg_ncon5, zg_ncon6, zg_nwin0, zg_nwin1, zg_nwin2, zg_nwin3, zg_nwin4, zg_nwin5, zg_ncode0, zg_ncode1, zg_ncode3, zg_nrule, zg_nstock, zg_nhold, zg_nknown, zg_nord, zg_nrep, zg_ncla, zg_ntou, zg_ncel, zu_nsun0, zu_nsun1, zu_nsun2, zu_nrock0, zu_nrock1, zu_nrock2, zu_nrock3, zu_nrock4, zu_nrock5, zu_nrock6, zu_nrock7, zu_nrock8, zu_nrock9, zu_nrock10, zu_nrock11, zu_nrock12, zu_nrock13, zu_nrock14, zu_ntug0, zu_ntug1, zu_ntug2, zu_ntug3, zu_ntug4, zu_ntug5, zu_ntug6, zu_ntug7, zu_ntug8, zu_ntug9, zu_ntug10, zu_ntug11, zu_ntug12, zu_ntug13, zu_ntug14, zu_ntug15, zu_ntug17, zu_ntug18, zu_ntug19, zu_ntug20, zu_ntug21, zu_ntug22, zu_ncon0, zu_ncon1, zu_ncon2, zu_ncon3, zu_ncon4, zu_ncon5, zu_ncon6, zu_nwin0, zu_nwin1, zu_nwin2, zu_nwin3, zu_nwin4, zu_nwin5, zu_ncode3, zu_nrule, zu_nstock, zu_nhold, zu_nknown, zu_nord, zu_nrep, zu_ncla, zu_ntou, zu_ncel]
          · have hq : ∀ m k (s : zSt), s.2.1 = true → zlp (zstep wd K rt e (fun a b c f w x p s => zsch wd K rt e nw D a b c f w x p s) many rk dy fu wo se pa) m k s = s := by
              intro m k s h
              cases m with
              | zero => rfl
              | succ m => unfold zlp; rw [if_pos h]
            rw [hq _ _ _ rfl]
            unfold zSk
            simp (disch := omega) only [zcs_eq, zcs_n, zup_g, zup_n]
            exact ⟨⟨b2, b3, b5, b6, (if_pos trivial).symm, b8, c5, c7⟩, bpa, bbl, bm6, btl, bbe, bbt⟩
        rw [if_neg ht]
        obtain ⟨t, hst⟩ : ∃ t, s.1 = t + 1 := ⟨s.1 - 1, by omega⟩
        have b6' : C 394 0 6 = nI (t + 1) := by rw [b6, hst]
        have gt : ¬ nI (t + 1) < 1 := nI_nlt (a := t + 1) (b := 1) (by omega) (by omega)
        have gtb := Int32.not_lt.mp gt
        have hts : s.1 - 1 = t := by omega
        rw [hts]
        have hm6 : many < 6 := by omega
        have hw1 : wd k 1 < 8 := by omega
        have hk9 := (hKK (wd k 1) x1).2
        obtain ⟨wo', hwo⟩ : ∃ wo', wo' = wo + (if ((se >>> (nI (wd k 1) &&& 31)) &&& 1) = 0 then K (wd k 1) 9 else 0) := ⟨_, rfl⟩
        obtain ⟨pa', hpa⟩ : ∃ pa', pa' = zleg pa many k LV (LV + wd k 5) (FW - wd k 4) := ⟨_, rfl⟩
        rw [← hwo, ← hpa]
        obtain ⟨C1, hC1⟩ : ∃ C1, C1 = zcs C 394 (zup (C 394) 0 6 (nI t)) := ⟨_, rfl⟩
        have h70 := T70 (d + D + 2) L p0 p2 r2 r3 2 many C1 (nI k) (nI LV) (nI (LV + wd k 5)) (nI (FW - wd k 4)) hm6 (by rw [hC1, zcs_n _ _ (by decide)]; exact c5)
        obtain ⟨C2, hC2⟩ : ∃ C2, C2 = zcs (zcs C1 395 (zup (C1 395) 0 3 (nI (many + 1)))) 396 (zup (zup (zup (zup (C1 396) 0 (many * 4) (nI k)) 0 (many * 4 + 1) (nI LV)) 0 (many * 4 + 2) (nI (LV + wd k 5))) 0 (many * 4 + 3) (nI (FW - wd k 4))) := ⟨_, rfl⟩
        rw [← hC2] at h70
        have q394 : C2 394 = zup (C 394) 0 6 (nI t) := by rw [hC2, hC1]; simp (disch := omega) only [zcs_eq, zcs_n]
        have q395 : C2 395 0 3 = nI (many + 1) := by rw [hC2]; simp (disch := omega) only [zcs_eq, zcs_n, zup_g]
        have q397 : C2 397 = C 397 := by rw [hC2, hC1]; simp (disch := omega) only [zcs_n]
        have q398 : C2 398 = C 398 := by rw [hC2, hC1]; simp (disch := omega) only [zcs_n]
        have q396 : ∀ i, i < many + 1 → ∀ f, f < 4 → C2 396 0 (i * 4 + f) = pa' i f := by
          intro i hi f hf
          rw [hC2, zcs_eq, hpa]
          unfold zleg
          by_cases hi2 : i = many
          · subst hi2
            rw [if_pos rfl]
            rcases (show f = 0 ∨ f = 1 ∨ f = 2 ∨ f = 3 by omega) with rfl | rfl | rfl | rfl
            · simp (disch := omega) only [Nat.add_zero, zup_g, zup_n, if_true]
            · simp +decide (disch := omega) only [zup_g, zup_n, if_true, if_false]
            · simp +decide (disch := omega) only [zup_g, zup_n, if_true, if_false]
            · simp +decide (disch := omega) only [zup_g, zup_n, if_true, if_false]
          · rw [if_neg hi2]
            simp (disch := omega) only [zup_n]
            rw [hC1, zcs_n _ _ (by decide)]
            exact bpa i (by omega) f hf
        have qfr : zFr C C2 := fun g hg => by rw [hC2, hC1, zcs_n _ _ (by omega), zcs_n _ _ (by omega), zcs_n _ _ (by omega)]
        have h71 := T71 (d + D + 3) L p0 p2 r2 r3 2 (many + 1) C2 wo' (LV + wd k 5) (t, s.2) (by omega) (by omega) bm6 bbe (by rw [q394, zup_n _ _ (by omega)]; exact b2) (by rw [q394, zup_n _ _ (by omega)]; exact b3) q395 (by rw [q397]; exact c7)
        have h3 : ∃ C3, (zR (d + D + 5) 68 226 [.ref 194, .int (nI rk), .int (nI dy), .int (nI fu), .int wo, .int se, .int (nI k), .ref (69 + k), .int (nI LV), .int (nI (LV + wd k 5)), .int (nI (FW - wd k 4)), .int (if ((se >>> (nI (wd k 1) &&& 31)) &&& 1) = 0 then 1 else 0), .int wo'] [] (zZ L, zI C2, zPd p0 p2 r2 r3 2) = zR (d + D + 5) 68 245 [.ref 194, .int (nI rk), .int (nI dy), .int (nI fu), .int wo, .int se, .int (nI k), .ref (69 + k), .int (nI LV), .int (nI (LV + wd k 5)), .int (nI (FW - wd k 4)), .int (if ((se >>> (nI (wd k 1) &&& 31)) &&& 1) = 0 then 1 else 0), .int wo'] [] (zZ L, zI C3, zPd p0 p2 r2 r3 2)) ∧ zFr C C3 ∧ zSk (zcs C3 394 (zup (C3 394) 0 8 (pt ||| ((1 : Int32) <<< (nI k &&& 31))))) e (many + 1) pa' (pt ||| ((1 : Int32) <<< (nI k &&& 31))) (zcons wo' (LV + wd k 5) (many + 1) pa' (t, s.2)) ∧ C3 394 0 8 = pt := by
          have hbits : ∀ i, i < 16 → (zbt (pt ||| ((1 : Int32) <<< (nI k &&& 31))) i ↔ ∀ j, j < many + 1 → pa' j 0 ≠ nI i) := by
            intro i hi
            rw [zbt_or pt (by omega) (by omega), bbt i hi, hpa]
            unfold zleg
            constructor
            · rintro ⟨h1, h2⟩ j hj
              by_cases e1 : j = many
              · rw [if_pos e1]
                simp only [if_true]
                exact fun h => h2 ((nI_eq (by omega) (by omega)).mp h).symm
              · rw [if_neg e1]; exact h1 j (by omega)
            · intro h
              refine ⟨fun j hj => ?_, fun e1 => ?_⟩
              · have := h j (by omega)
                rw [if_neg (by omega)] at this
                exact this
              · have := h many (by omega)
                rw [if_pos rfl] at this
                simp only [if_true] at this
                exact this (by rw [e1])
          by_cases hb : zbet wo' (LV + wd k 5) (many + 1) (t, s.2) = true
          · have h72 := T72 (d + D + 3) L p0 p2 r2 r3 2 (many + 1) C2 wo' (nI (LV + wd k 5)) (by omega) q395
            obtain ⟨C3, hC3⟩ : ∃ C3, C3 = zcs (zcs (zcs C2 397 (zup (C2 397) 0 3 (nI (many + 1)))) 398 (zfF (C2 398) (fun f => C2 396 0 f) 0 ((many + 1) * 4))) 394 (zup (zup (C2 394) 0 2 wo') 0 3 (nI (LV + wd k 5))) := ⟨_, rfl⟩
            rw [← hC3] at h72
            refine ⟨C3, ?_, fun g hg => ?_, ?_, ?_⟩
            · rw [if_pos hb] at h71
              simp +decide (disch := omega) only [e68_226, e68_234, e68_237, h71, h72, zpre, ite_self, zs1, zs2, zs3, zI_eqb, and_self, not_true_eq_false, if_true, if_false, ite_true, ite_false, not_false_eq_true, zBP, zBZ, zisO, zisA, zlen, decide_true, decide_false, Bool.and_self, Bool.and_true, Bool.true_and, cond_true, cond_false, zBG, zBR, zBU, zBV, zinb_n, zix_n, zlA, zlB, zlM, zlN, zlX, zlI, nI_add, Nat.add_eq_zero_iff, false_and, and_false, and_true, true_and, true_or, or_true, false_or, or_false, zbool_i, zb0, zb1, zshp_0, zcs_eq, zcs_n, zcs_cs, zup_g, zup_n, zp2_sun, zp2_rock, zp2_tug, zp2_contract, zp2_window, zp2_code, zp2_rbody, zp2_rstock, zp2_tfree, zp2_thold, zp2_tknown, zp2_ccells, zsh2_sun, zsh2_rock, zsh2_body, zsh2_stock, zsh2_tug, zsh2_free, zsh2_hold, zsh2_known, zsh2_contract, zsh2_window, zsh2_code, zsh2_cells, zg_nsun0, zg_nsun1, zg_nsun2, zg_nrock0, zg_nrock1, zg_nrock2, zg_nrock3, zg_nrock4, zg_nrock5, zg_nrock6, zg_nrock7, zg_nrock8, zg_nrock9, zg_nrock10, zg_nrock11, zg_nrock12, zg_nrock13, zg_nrock14, zg_ntug0, zg_ntug1, zg_ntug2, zg_ntug3, zg_ntug4, zg_ntug5, zg_ntug6, zg_ntug7, zg_ntug8, zg_ntug9, zg_ntug10, zg_ntug11, zg_ntug12, zg_ntug13, zg_ntug14, zg_ntug15, zg_ntug17, zg_ntug18, zg_ntug19, zg_ntug20, zg_ntug21, zg_ntug22, zg_ncon0, zg_ncon1, zg_ncon2, zg_ncon3, zg_ncon4, zg_ncon5, zg_ncon6, zg_nwin0, zg_nwin1, zg_nwin2, zg_nwin3, zg_nwin4, zg_nwin5, zg_ncode0, zg_ncode1, zg_ncode3, zg_nrule, zg_nstock, zg_nhold, zg_nknown, zg_nord, zg_nrep, zg_ncla, zg_ntou, zg_ncel, zu_nsun0, zu_nsun1, zu_nsun2, zu_nrock0, zu_nrock1, zu_nrock2, zu_nrock3, zu_nrock4, zu_nrock5, zu_nrock6, zu_nrock7, zu_nrock8, zu_nrock9, zu_nrock10, zu_nrock11, zu_nrock12, zu_nrock13, zu_nrock14, zu_ntug0, zu_ntug1, zu_ntug2, zu_ntug3, zu_ntug4, zu_ntug5, zu_ntug6, zu_ntug7, zu_ntug8, zu_ntug9, zu_ntug10, zu_ntug11, zu_ntug12, zu_ntug13, zu_ntug14, zu_ntug15, zu_ntug17, zu_ntug18, zu_ntug19, zu_ntug20, zu_ntug21, zu_ntug22, zu_ncon0, zu_ncon1, zu_ncon2, zu_ncon3, zu_ncon4, zu_ncon5, zu_ncon6, zu_nwin0, zu_nwin1, zu_nwin2, zu_nwin3, zu_nwin4, zu_nwin5, zu_ncode3, zu_nrule, zu_nstock, zu_nhold, zu_nknown, zu_nord, zu_nrep, zu_ncla, zu_ntou, zu_ncel]
            · rw [hC3, zcs_n _ _ (by omega), zcs_n _ _ (by omega), zcs_n _ _ (by omega)]; exact qfr g hg
            · unfold zcons
              rw [if_pos hb]
              unfold zSk
              rw [hC3]
              simp (disch := omega) only [zcs_eq, zcs_n, zup_g, zup_n, q394]
              refine ⟨⟨trivial, trivial, b5, trivial, ?_, trivial, q395, trivial⟩, q396, ?_, by omega, by omega, by omega, hbits⟩
              · rw [if_neg hsp]; exact b7
              · intro i hi f hf
                rw [zfF_in (by omega)]
                exact q396 i hi f hf
            · rw [hC3, zcs_eq]
              simp (disch := omega) only [zup_n, q394]
              exact b8
          · refine ⟨C2, ?_, qfr, ?_, ?_⟩
            · rw [if_neg hb] at h71
              simp +decide (disch := omega) only [e68_226, e68_234, h71, zpre, ite_self, zs1, zs2, zs3, zI_eqb, and_self, not_true_eq_false, if_true, if_false, ite_true, ite_false, not_false_eq_true, zBP, zBZ, zisO, zisA, zlen, decide_true, decide_false, Bool.and_self, Bool.and_true, Bool.true_and, cond_true, cond_false, zBG, zBR, zBU, zBV, zinb_n, zix_n, zlA, zlB, zlM, zlN, zlX, zlI, nI_add, Nat.add_eq_zero_iff, false_and, and_false, and_true, true_and, true_or, or_true, false_or, or_false, zbool_i, zb0, zb1, zshp_0, zcs_eq, zcs_n, zcs_cs, zup_g, zup_n, zp2_sun, zp2_rock, zp2_tug, zp2_contract, zp2_window, zp2_code, zp2_rbody, zp2_rstock, zp2_tfree, zp2_thold, zp2_tknown, zp2_ccells, zsh2_sun, zsh2_rock, zsh2_body, zsh2_stock, zsh2_tug, zsh2_free, zsh2_hold, zsh2_known, zsh2_contract, zsh2_window, zsh2_code, zsh2_cells, zg_nsun0, zg_nsun1, zg_nsun2, zg_nrock0, zg_nrock1, zg_nrock2, zg_nrock3, zg_nrock4, zg_nrock5, zg_nrock6, zg_nrock7, zg_nrock8, zg_nrock9, zg_nrock10, zg_nrock11, zg_nrock12, zg_nrock13, zg_nrock14, zg_ntug0, zg_ntug1, zg_ntug2, zg_ntug3, zg_ntug4, zg_ntug5, zg_ntug6, zg_ntug7, zg_ntug8, zg_ntug9, zg_ntug10, zg_ntug11, zg_ntug12, zg_ntug13, zg_ntug14, zg_ntug15, zg_ntug17, zg_ntug18, zg_ntug19, zg_ntug20, zg_ntug21, zg_ntug22, zg_ncon0, zg_ncon1, zg_ncon2, zg_ncon3, zg_ncon4, zg_ncon5, zg_ncon6, zg_nwin0, zg_nwin1, zg_nwin2, zg_nwin3, zg_nwin4, zg_nwin5, zg_ncode0, zg_ncode1, zg_ncode3, zg_nrule, zg_nstock, zg_nhold, zg_nknown, zg_nord, zg_nrep, zg_ncla, zg_ntou, zg_ncel, zu_nsun0, zu_nsun1, zu_nsun2, zu_nrock0, zu_nrock1, zu_nrock2, zu_nrock3, zu_nrock4, zu_nrock5, zu_nrock6, zu_nrock7, zu_nrock8, zu_nrock9, zu_nrock10, zu_nrock11, zu_nrock12, zu_nrock13, zu_nrock14, zu_ntug0, zu_ntug1, zu_ntug2, zu_ntug3, zu_ntug4, zu_ntug5, zu_ntug6, zu_ntug7, zu_ntug8, zu_ntug9, zu_ntug10, zu_ntug11, zu_ntug12, zu_ntug13, zu_ntug14, zu_ntug15, zu_ntug17, zu_ntug18, zu_ntug19, zu_ntug20, zu_ntug21, zu_ntug22, zu_ncon0, zu_ncon1, zu_ncon2, zu_ncon3, zu_ncon4, zu_ncon5, zu_ncon6, zu_nwin0, zu_nwin1, zu_nwin2, zu_nwin3, zu_nwin4, zu_nwin5, zu_ncode3, zu_nrule, zu_nstock, zu_nhold, zu_nknown, zu_nord, zu_nrep, zu_ncla, zu_ntou, zu_ncel]
            · unfold zcons
              rw [if_neg hb]
              unfold zSk
              simp (disch := omega) only [zcs_eq, zcs_n, zup_g, zup_n, q394]
              refine ⟨⟨b2, b3, b5, trivial, ?_, trivial, q395, ?_⟩, q396, ?_, bm6, by omega, bbe, hbits⟩
              · rw [if_neg hsp]; exact b7
              · rw [q397]; exact c7
              · rw [q398]; exact bbl
            · rw [q394, zup_n _ _ (by omega)]; exact b8
        obtain ⟨C3, k1, k2, k3, k4⟩ := h3
        obtain ⟨C4, hC4⟩ : ∃ C4, C4 = zcs C3 394 (zup (C3 394) 0 8 (pt ||| ((1 : Int32) <<< (nI k &&& 31)))) := ⟨_, rfl⟩
        rw [← hC4] at k3
        have fr4 : zFr C C4 := fun g hg => by rw [hC4, zcs_n _ _ (by omega)]; exact k2 g hg
        obtain ⟨C5, i1, i2, i3⟩ := ihD d (many + 1) (wd k 1) (LV + wd k 5) (FW - wd k 4) wo' (se ||| ((1 : Int32) <<< (nI (wd k 1) &&& 31))) (pt ||| ((1 : Int32) <<< (nI k &&& 31))) pa' (zcons wo' (LV + wd k 5) (many + 1) pa' (t, s.2)) C4 (by omega) x1 (by omega) (by omega) (zDt_c hD fr4) k3
        obtain ⟨s5, hs5⟩ : ∃ s5, s5 = zsch wd K rt e nw D (many + 1) (wd k 1) (LV + wd k 5) (FW - wd k 4) wo' (se ||| ((1 : Int32) <<< (nI (wd k 1) &&& 31))) pa' (zcons wo' (LV + wd k 5) (many + 1) pa' (t, s.2)) := ⟨_, rfl⟩
        rw [← hs5] at i3
        rw [← hs5]
        obtain ⟨⟨d2, d3, d5, d6, d7, d8, e5, e7⟩, dpa, dbl, dm6, dtl, dbe, dbt⟩ := id i3
        obtain ⟨C6, hC6⟩ : ∃ C6, C6 = zcs (zcs C5 394 (zup (C5 394) 0 8 pt)) 395 (zup (C5 395) 0 3 (nI many)) := ⟨_, rfl⟩
        have fr6 : zFr C C6 := fun g hg => by
          rw [hC6, zcs_n _ _ (by omega), zcs_n _ _ (by omega), i2 g hg]
          exact fr4 g hg
        have hS6 : zSk C6 e many pa pt s5 := by
          unfold zSk
          rw [hC6]
          simp (disch := omega) only [zcs_eq, zcs_n, zup_g, zup_n]
          refine ⟨⟨d2, d3, d5, d6, d7, trivial, trivial, e7⟩, fun i hi f hf => ?_, dbl, dm6, dtl, dbe, bbt⟩
          rw [dpa i (by omega) f hf, hpa]
          unfold zleg
          rw [if_neg (by omega)]
        obtain ⟨C', z1, z2, z3⟩ := ihm (k + 1) s5 C6 (.ref (69 + k)) (.int (nI LV)) (.int (nI (LV + wd k 5))) (.int (nI (FW - wd k 4))) (.int (if ((se >>> (nI (wd k 1) &&& 31)) &&& 1) = 0 then 1 else 0)) (.int wo') (by omega) (zDt_c hD fr6) hS6
        refine ⟨C', ?_, zFr_t fr6 z2, z3⟩
        have hback := zbt_back pt (i := k) (by omega) ((bbt k hk16).mpr f2)
        have hw1' : C4 8 k 1 = nI (wd k 1) := by rw [fr4 8 (by decide)]; exact w1
        have hw3 : C3 8 k 1 = nI (wd k 1) := by rw [k2 8 (by decide)]; exact w1
        have hpos : ¬ nI (many + 1) ≤ 0 := nI_nle (by omega) (by omega)
        have htail : zR (d + D + 5) 68 245 [.ref 194, .int (nI rk), .int (nI dy), .int (nI fu), .int wo, .int se, .int (nI k), .ref (69 + k), .int (nI LV), .int (nI (LV + wd k 5)), .int (nI (FW - wd k 4)), .int (if ((se >>> (nI (wd k 1) &&& 31)) &&& 1) = 0 then 1 else 0), .int wo'] [] (zZ L, zI C3, zPd p0 p2 r2 r3 2) = some (none, (zZ L, zI C', zPd p0 p2 r2 r3 2)) := by
          rw [← z1, hC6]
          simp +decide (disch := omega) only [e68_245, e68_283, e68_305, e47_0, e47_7, e47_17, k4, ← hC4, hw1', hw3, i1, d8, hback, e5, hpos, nI_pred, zpre, ite_self, zs1, zs2, zs3, zI_eqb, and_self, not_true_eq_false, if_true, if_false, ite_true, ite_false, not_false_eq_true, zBP, zBZ, zisO, zisA, zlen, decide_true, decide_false, Bool.and_self, Bool.and_true, Bool.true_and, cond_true, cond_false, zBG, zBR, zBU, zBV, zinb_n, zix_n, zlA, zlB, zlM, zlN, zlX, zlI, nI_add, Nat.add_eq_zero_iff, false_and, and_false, and_true, true_and, true_or, or_true, false_or, or_false, zbool_i, zb0, zb1, zshp_0, zcs_eq, zcs_n, zcs_cs, zup_g, zup_n, zp2_sun, zp2_rock, zp2_tug, zp2_contract, zp2_window, zp2_code, zp2_rbody, zp2_rstock, zp2_tfree, zp2_thold, zp2_tknown, zp2_ccells, zsh2_sun, zsh2_rock, zsh2_body, zsh2_stock, zsh2_tug, zsh2_free, zsh2_hold, zsh2_known, zsh2_contract, zsh2_window, zsh2_code, zsh2_cells, zg_nsun0, zg_nsun1, zg_nsun2, zg_nrock0, zg_nrock1, zg_nrock2, zg_nrock3, zg_nrock4, zg_nrock5, zg_nrock6, zg_nrock7, zg_nrock8, zg_nrock9, zg_nrock10, zg_nrock11, zg_nrock12, zg_nrock13, zg_nrock14, zg_ntug0, zg_ntug1, zg_ntug2, zg_ntug3, zg_ntug4, zg_ntug5, zg_ntug6, zg_ntug7, zg_ntug8, zg_ntug9, zg_ntug10, zg_ntug11, zg_ntug12, zg_ntug13, zg_ntug14, zg_ntug15, zg_ntug17, zg_ntug18, zg_ntug19, zg_ntug20, zg_ntug21, zg_ntug22, zg_ncon0, zg_ncon1, zg_ncon2, zg_ncon3, zg_ncon4, zg_ncon5, zg_ncon6, zg_nwin0, zg_nwin1, zg_nwin2, zg_nwin3, zg_nwin4, zg_nwin5, zg_ncode0, zg_ncode1, zg_ncode3, zg_nrule, zg_nstock, zg_nhold, zg_nknown, zg_nord, zg_nrep, zg_ncla, zg_ntou, zg_ncel, zu_nsun0, zu_nsun1, zu_nsun2, zu_nrock0, zu_nrock1, zu_nrock2, zu_nrock3, zu_nrock4, zu_nrock5, zu_nrock6, zu_nrock7, zu_nrock8, zu_nrock9, zu_nrock10, zu_nrock11, zu_nrock12, zu_nrock13, zu_nrock14, zu_ntug0, zu_ntug1, zu_ntug2, zu_ntug3, zu_ntug4, zu_ntug5, zu_ntug6, zu_ntug7, zu_ntug8, zu_ntug9, zu_ntug10, zu_ntug11, zu_ntug12, zu_ntug13, zu_ntug14, zu_ntug15, zu_ntug17, zu_ntug18, zu_ntug19, zu_ntug20, zu_ntug21, zu_ntug22, zu_ncon0, zu_ncon1, zu_ncon2, zu_ncon3, zu_ncon4, zu_ncon5, zu_ncon6, zu_nwin0, zu_nwin1, zu_nwin2, zu_nwin3, zu_nwin4, zu_nwin5, zu_ncode3, zu_nrule, zu_nstock, zu_nhold, zu_nknown, zu_nord, zu_nrep, zu_ncla, zu_ntou, zu_ncel]
        rw [← htail, ← k1]
        by_cases hnew : ((se >>> (nI (wd k 1) &&& 31)) &&& 1) = 0
        · rw [if_pos hnew] at hwo ⊢
          rw [hwo, hC1] at *
          simp +decide (disch := omega) only [e68_28, e68_35, e68_56, e68_68, e68_71, e68_102, e68_111, e68_114, e68_124, e68_137, e68_305, e68_140, e68_154, e68_177, e68_181, e68_182, e68_191, e68_210, e68_211, hn, hge, b7, b8, b5, w0, w1, w2, w3, w4, w5, g1, g2, hl, g3, g3b, g4, g4b, hsub, h69, hsub2, g5, g5b, b6', gt, gtb, nI_pred, hnew, hk9, h70, zpre, ite_self, zs1, zs2, zs3, zI_eqb, and_self, not_true_eq_false, if_true, if_false, ite_true, ite_false, not_false_eq_true, zBP, zBZ, zisO, zisA, zlen, decide_true, decide_false, Bool.and_self, Bool.and_true, Bool.true_and, cond_true, cond_false, zBG, zBR, zBU, zBV, zinb_n, zix_n, zlA, zlB, zlM, zlN, zlX, zlI, nI_add, Nat.add_eq_zero_iff, false_and, and_false, and_true, true_and, true_or, or_true, false_or, or_false, zbool_i, zb0, zb1, zshp_0, zcs_eq, zcs_n, zcs_cs, zup_g, zup_n, zp2_sun, zp2_rock, zp2_tug, zp2_contract, zp2_window, zp2_code, zp2_rbody, zp2_rstock, zp2_tfree, zp2_thold, zp2_tknown, zp2_ccells, zsh2_sun, zsh2_rock, zsh2_body, zsh2_stock, zsh2_tug, zsh2_free, zsh2_hold, zsh2_known, zsh2_contract, zsh2_window, zsh2_code, zsh2_cells, zg_nsun0, zg_nsun1, zg_nsun2, zg_nrock0, zg_nrock1, zg_nrock2, zg_nrock3, zg_nrock4, zg_nrock5, zg_nrock6, zg_nrock7, zg_nrock8, zg_nrock9, zg_nrock10, zg_nrock11, zg_nrock12, zg_nrock13, zg_nrock14, zg_ntug0, zg_ntug1, zg_ntug2, zg_ntug3, zg_ntug4, zg_ntug5, zg_ntug6, zg_ntug7, zg_ntug8, zg_ntug9, zg_ntug10, zg_ntug11, zg_ntug12, zg_ntug13, zg_ntug14, zg_ntug15, zg_ntug17, zg_ntug18, zg_ntug19, zg_ntug20, zg_ntug21, zg_ntug22, zg_ncon0, zg_ncon1, zg_ncon2, zg_ncon3, zg_ncon4, zg_ncon5, zg_ncon6, zg_nwin0, zg_nwin1, zg_nwin2, zg_nwin3, zg_nwin4, zg_nwin5, zg_ncode0, zg_ncode1, zg_ncode3, zg_nrule, zg_nstock, zg_nhold, zg_nknown, zg_nord, zg_nrep, zg_ncla, zg_ntou, zg_ncel, zu_nsun0, zu_nsun1, zu_nsun2, zu_nrock0, zu_nrock1, zu_nrock2, zu_nrock3, zu_nrock4, zu_nrock5, zu_nrock6, zu_nrock7, zu_nrock8, zu_nrock9, zu_nrock10, zu_nrock11, zu_nrock12, zu_nrock13, zu_nrock14, zu_ntug0, zu_ntug1, zu_ntug2, zu_ntug3, zu_ntug4, zu_ntug5, zu_ntug6, zu_ntug7, zu_ntug8, zu_ntug9, zu_ntug10, zu_ntug11, zu_ntug12, zu_ntug13, zu_ntug14, zu_ntug15, zu_ntug17, zu_ntug18, zu_ntug19, zu_ntug20, zu_ntug21, zu_ntug22, zu_ncon0, zu_ncon1, zu_ncon2, zu_ncon3, zu_ncon4, zu_ncon5, zu_ncon6, zu_nwin0, zu_nwin1, zu_nwin2, zu_nwin3, zu_nwin4, zu_nwin5, zu_ncode3, zu_nrule, zu_nstock, zu_nhold, zu_nknown, zu_nord, zu_nrep, zu_ncla, zu_ntou, zu_ncel]
        · rw [if_neg hnew] at hwo ⊢
          rw [hwo, hC1] at *
          simp +decide (disch := omega) only [e68_28, e68_35, e68_56, e68_68, e68_71, e68_102, e68_111, e68_114, e68_124, e68_137, e68_305, e68_140, e68_154, e68_177, e68_181, e68_182, e68_191, e68_210, e68_211, hn, hge, b7, b8, b5, w0, w1, w2, w3, w4, w5, g1, g2, hl, g3, g3b, g4, g4b, hsub, h69, hsub2, g5, g5b, b6', gt, gtb, nI_pred, hnew, hk9, h70, zpre, ite_self, zs1, zs2, zs3, zI_eqb, and_self, not_true_eq_false, if_true, if_false, ite_true, ite_false, not_false_eq_true, zBP, zBZ, zisO, zisA, zlen, decide_true, decide_false, Bool.and_self, Bool.and_true, Bool.true_and, cond_true, cond_false, zBG, zBR, zBU, zBV, zinb_n, zix_n, zlA, zlB, zlM, zlN, zlX, zlI, nI_add, Nat.add_eq_zero_iff, false_and, and_false, and_true, true_and, true_or, or_true, false_or, or_false, zbool_i, zb0, zb1, zshp_0, zcs_eq, zcs_n, zcs_cs, zup_g, zup_n, zp2_sun, zp2_rock, zp2_tug, zp2_contract, zp2_window, zp2_code, zp2_rbody, zp2_rstock, zp2_tfree, zp2_thold, zp2_tknown, zp2_ccells, zsh2_sun, zsh2_rock, zsh2_body, zsh2_stock, zsh2_tug, zsh2_free, zsh2_hold, zsh2_known, zsh2_contract, zsh2_window, zsh2_code, zsh2_cells, zg_nsun0, zg_nsun1, zg_nsun2, zg_nrock0, zg_nrock1, zg_nrock2, zg_nrock3, zg_nrock4, zg_nrock5, zg_nrock6, zg_nrock7, zg_nrock8, zg_nrock9, zg_nrock10, zg_nrock11, zg_nrock12, zg_nrock13, zg_nrock14, zg_ntug0, zg_ntug1, zg_ntug2, zg_ntug3, zg_ntug4, zg_ntug5, zg_ntug6, zg_ntug7, zg_ntug8, zg_ntug9, zg_ntug10, zg_ntug11, zg_ntug12, zg_ntug13, zg_ntug14, zg_ntug15, zg_ntug17, zg_ntug18, zg_ntug19, zg_ntug20, zg_ntug21, zg_ntug22, zg_ncon0, zg_ncon1, zg_ncon2, zg_ncon3, zg_ncon4, zg_ncon5, zg_ncon6, zg_nwin0, zg_nwin1, zg_nwin2, zg_nwin3, zg_nwin4, zg_nwin5, zg_ncode0, zg_ncode1, zg_ncode3, zg_nrule, zg_nstock, zg_nhold, zg_nknown, zg_nord, zg_nrep, zg_ncla, zg_ntou, zg_ncel, zu_nsun0, zu_nsun1, zu_nsun2, zu_nrock0, zu_nrock1, zu_nrock2, zu_nrock3, zu_nrock4, zu_nrock5, zu_nrock6, zu_nrock7, zu_nrock8, zu_nrock9, zu_nrock10, zu_nrock11, zu_nrock12, zu_nrock13, zu_nrock14, zu_ntug0, zu_ntug1, zu_ntug2, zu_ntug3, zu_ntug4, zu_ntug5, zu_ntug6, zu_ntug7, zu_ntug8, zu_ntug9, zu_ntug10, zu_ntug11, zu_ntug12, zu_ntug13, zu_ntug14, zu_ntug15, zu_ntug17, zu_ntug18, zu_ntug19, zu_ntug20, zu_ntug21, zu_ntug22, zu_ncon0, zu_ncon1, zu_ncon2, zu_ncon3, zu_ncon4, zu_ncon5, zu_ncon6, zu_nwin0, zu_nwin1, zu_nwin2, zu_nwin3, zu_nwin4, zu_nwin5, zu_ncode3, zu_nrule, zu_nstock, zu_nhold, zu_nknown, zu_nord, zu_nrep, zu_ncla, zu_ntou, zu_ncel]
    obtain ⟨C', z1, z2⟩ := hloop nw 0 s C zmk zmk zmk zmk zmk zmk (by omega) hD hS
    refine ⟨C', ?_, z2⟩
    have h5 := hS.1.2.2.2.2.2.2.1
    have h6 : nI many < (6 : Int32) := nI_lt (b := 6) (by omega) (by decide)
    rw [← z1, zn0]
    simp +decide (disch := omega) only [e68_0, e68_7, e68_13, e43_0, h5, h6, zpre, ite_self, zs1, zs2, zs3, zI_eqb, and_self, not_true_eq_false, if_true, if_false, ite_true, ite_false, not_false_eq_true, zBP, zBZ, zisO, zisA, zlen, decide_true, decide_false, Bool.and_self, Bool.and_true, Bool.true_and, cond_true, cond_false, zBG, zBR, zBU, zBV, zinb_n, zix_n, zlA, zlB, zlM, zlN, zlX, zlI, nI_add, Nat.add_eq_zero_iff, false_and, and_false, and_true, true_and, true_or, or_true, false_or, or_false, zbool_i, zb0, zb1, zshp_0, zcs_eq, zcs_n, zcs_cs, zup_g, zup_n, zp2_sun, zp2_rock, zp2_tug, zp2_contract, zp2_window, zp2_code, zp2_rbody, zp2_rstock, zp2_tfree, zp2_thold, zp2_tknown, zp2_ccells, zsh2_sun, zsh2_rock, zsh2_body, zsh2_stock, zsh2_tug, zsh2_free, zsh2_hold, zsh2_known, zsh2_contract, zsh2_window, zsh2_code, zsh2_cells, zg_nsun0, zg_nsun1, zg_nsun2, zg_nrock0, zg_nrock1, zg_nrock2, zg_nrock3, zg_nrock4, zg_nrock5, zg_nrock6, zg_nrock7, zg_nrock8, zg_nrock9, zg_nrock10, zg_nrock11, zg_nrock12, zg_nrock13, zg_nrock14, zg_ntug0, zg_ntug1, zg_ntug2, zg_ntug3, zg_ntug4, zg_ntug5, zg_ntug6, zg_ntug7, zg_ntug8, zg_ntug9, zg_ntug10, zg_ntug11, zg_ntug12, zg_ntug13, zg_ntug14, zg_ntug15, zg_ntug17, zg_ntug18, zg_ntug19, zg_ntug20, zg_ntug21, zg_ntug22, zg_ncon0, zg_ncon1, zg_ncon2, zg_ncon3, zg_ncon4, zg_ncon5, zg_ncon6, zg_nwin0, zg_nwin1, zg_nwin2, zg_nwin3, zg_nwin4, zg_nwin5, zg_ncode0, zg_ncode1, zg_ncode3, zg_nrule, zg_nstock, zg_nhold, zg_nknown, zg_nord, zg_nrep, zg_ncla, zg_ntou, zg_ncel, zu_nsun0, zu_nsun1, zu_nsun2, zu_nrock0, zu_nrock1, zu_nrock2, zu_nrock3, zu_nrock4, zu_nrock5, zu_nrock6, zu_nrock7, zu_nrock8, zu_nrock9, zu_nrock10, zu_nrock11, zu_nrock12, zu_nrock13, zu_nrock14, zu_ntug0, zu_ntug1, zu_ntug2, zu_ntug3, zu_ntug4, zu_ntug5, zu_ntug6, zu_ntug7, zu_ntug8, zu_ntug9, zu_ntug10, zu_ntug11, zu_ntug12, zu_ntug13, zu_ntug14, zu_ntug15, zu_ntug17, zu_ntug18, zu_ntug19, zu_ntug20, zu_ntug21, zu_ntug22, zu_ncon0, zu_ncon1, zu_ncon2, zu_ncon3, zu_ncon4, zu_ncon5, zu_ncon6, zu_nwin0, zu_nwin1, zu_nwin2, zu_nwin3, zu_nwin4, zu_nwin5, zu_ncode3, zu_nrule, zu_nstock, zu_nhold, zu_nknown, zu_nord, zu_nrep, zu_ncla, zu_ntou, zu_ncel]

