/-! THE RUN: what a tug does (6): burn, printed by wip/gen/pub40.py -/
theorem e214_80v (d : Nat) (Z : List (Nat × Nat)) (I : Nat → Nat → Int32) (P : Nat → Nat → Nat) (r0 : Nat) (x1 x2 x3 x4 x5 x6 x7 : Int32) (v9 v10 v11 : Value) (v8 : Value) : zR d 214 80 [.ref r0, .int x1, .int x2, .int x3, .int x4, .int x5, .int x6, .int x7, v8, v9, v10, v11] [] (Z, I, P) = (if 2 ≤ x7 then zR d 214 254 [.ref r0, .int x1, .int x2, .int x3, .int x4, .int x5, .int x6, .int x7, v8, v9, v10, v11] [] (Z, I, P) else zR d 214 86 [.ref r0, .int x1, .int x2, .int x3, .int x4, .int x5, .int x6, .int x7, v8, v9, v10, v11] [] (Z, I, P)) := zE_br (g := true) (p := 2 ≤ x7) (t := 254) (f := 86) zK214 rfl zi214 50 3 rfl
theorem zl34 : (3 : Int32) + 0 = 3 ∧ (3 : Int32) + 1 = 4 := by decide
theorem znine (x : Int32) : ∃ c, c ≤ 9 ∧ zab (zheld x.toInt64 (-9) 9) = nI c := by
  have h := zheld_i x.toInt64 (-9) 9 (by decide)
  have c9 : (9 : Int32).toInt = 9 := rfl
  have cm9 : (-9 : Int32).toInt = -9 := rfl
  rw [c9, cm9] at h
  have ha := zab_i (zheld x.toInt64 (-9) 9) (by omega)
  have h0 : (0 : Int32).toInt = 0 := rfl
  obtain ⟨c, hc, e⟩ := zrng (x := zab (zheld x.toInt64 (-9) 9)) (n := 9) ⟨Int32.le_iff_toInt_le.mpr (by rw [h0, ha]; split <;> omega), Int32.le_iff_toInt_le.mpr (by rw [nI_toInt (by decide), ha]; split <;> omega)⟩ (by decide)
  exact ⟨c, hc, e⟩
theorem T214f_0 (d L p0 p2 r2 r3 s4 : Nat) (C : zCt) {u : Nat} (hu : u < 4) (x1 x5 x6 pp qq : Int32) (v8 v9 v10 v11 : Value) (hx : (x6 = -1) = True) : zR (d + 1) 214 80 [.ref 201, .int x1, .int pp, .int qq, .int (nI (160 + 28 * u)), .int x5, .int x6, .int 0, v8, v9, v10, v11] [] (zZ L, zI C, zPd p0 p2 r2 r3 s4) = zR (d + 1) 214 80 [.ref 201, .int x1, .int pp, .int qq, .int (nI (160 + 28 * u)), .int x5, .int x6, .int 1, .int pp, v9, v10, v11] [] (zZ L, zI (zcs C 43 (zup (C 43) u 3 (zheld ((C 43 u 3).toInt64 + (10 * pp).toInt64) (-9999999) 9999999))), zPd p0 p2 r2 r3 s4) := by
  have e1 : zI C 202 (160 + 28 * u + 3 + 0) = C 43 u 3 := by rw [Nat.add_assoc]; exact zg_stug C hu (by decide)
  rw [e214_80v, if_neg (by decide)]
  simp +decide (disch := omega) only [e214_86, e214_91, e214_95, e214_96, e214_104, e214_138, e214_248, hx, T215, e1, zli, Nat.add_zero, zpre, ite_self, Nat.reduceAdd, zs1, zs2, zs3, zI_eqb, and_self, not_true_eq_false, if_true, if_false, ite_true, ite_false, not_false_eq_true, zBP, zBZ, zisO, zisA, zlen, decide_true, decide_false, Bool.and_self, Bool.and_true, Bool.true_and, cond_true, cond_false, zBG, zBR, zBU, zBV, zinb_n, zix_n, zlA, zlB, zlM, zlN, zlX, zlI, nI_add, Nat.add_eq_zero_iff, false_and, and_false, and_true, true_and, true_or, or_true, false_or, or_false, zbool_i, zb0, zb1, zshp_0, zcs_eq, zcs_n, zcs_cs, zup_g, zup_n, zg_srock2, zg_stug2, zg_ssun, zg_ssun0, zg_srock, zg_srock0, zg_stug, zg_stug0, zg_sord, zg_sord0, zg_srep, zg_srep0, zg_scla, zg_scla0, zg_scon, zg_scon0, zg_swin, zg_swin0, zg_sleg, zg_sleg0, zg_spro, zg_sstp, zg_swrd, zu_srock2, zu_stug2, zu_ssun, zu_ssun0, zu_srock, zu_srock0, zu_stug, zu_stug0, zu_sord, zu_sord0, zu_srep, zu_srep0, zu_scla, zu_scla0, zu_scon, zu_scon0, zu_swin, zu_swin0, zu_sleg, zu_sleg0, zu_spro, zu_sstp, zu_swrd]
theorem T214r_0 (d L p0 p2 r2 r3 s4 : Nat) (C : zCt) {r tn : Nat} (hr : r < 8) (x1 x4 x5 pp qq : Int32) (v8 v9 v10 v11 : Value) (ht : C 42 r 5 = nI tn) (ht1 : 1 ≤ tn) (ht2 : tn ≤ 99999) : ∃ w9 w10 w11, zR (d + 1) 214 80 [.ref 201, .int x1, .int pp, .int qq, .int x4, .int x5, .int (nI r), .int 0, v8, v9, v10, v11] [] (zZ L, zI C, zPd p0 p2 r2 r3 s4) = zR (d + 1) 214 80 [.ref 201, .int x1, .int pp, .int qq, .int x4, .int x5, .int (nI r), .int 1, .int pp, w9, w10, w11] [] (zZ L, zI (zcs C 42 (zup (zup (C 42) r 3 (zheld ((C 42 r 3).toInt64 + ((C 42 r 11 + 1000 * pp) / nI tn).toInt64) (-9999999) 9999999)) r 11 ((C 42 r 11 + 1000 * pp) - (C 42 r 11 + 1000 * pp) / nI tn * nI tn))), zPd p0 p2 r2 r3 s4) := by
  have hnm : ¬ nI r = -1 := by rw [nI_m (by omega)]; exact id
  have ht0 : ¬ nI tn = 0 := nI_ne0 (by omega) (by omega)
  have e1 : zI C 202 (30 + 16 * r + 3 + 0) = C 42 r 3 := by rw [Nat.add_assoc]; exact zg_srock C hr (by decide)
  have e2 : zI C 202 (30 + 16 * r + 11 + 0) = C 42 r 11 := by rw [Nat.add_assoc]; exact zg_srock C hr (by decide)
  refine ⟨.int (nI (30 + 16 * r)), .int (C 42 r 11 + 1000 * pp), .int ((C 42 r 11 + 1000 * pp) / nI tn), ?_⟩
  rw [e214_80v, if_neg (by decide)]
  simp +decide (disch := omega) only [e214_86, e214_91, e214_95, e214_96, e214_142, e214_219, e214_248, hnm, ht, ht0, T215, e1, e2, zli, Nat.add_zero, zpre, ite_self, Nat.reduceAdd, zs1, zs2, zs3, zI_eqb, and_self, not_true_eq_false, if_true, if_false, ite_true, ite_false, not_false_eq_true, zBP, zBZ, zisO, zisA, zlen, decide_true, decide_false, Bool.and_self, Bool.and_true, Bool.true_and, cond_true, cond_false, zBG, zBR, zBU, zBV, zinb_n, zix_n, zlA, zlB, zlM, zlN, zlX, zlI, nI_add, Nat.add_eq_zero_iff, false_and, and_false, and_true, true_and, true_or, or_true, false_or, or_false, zbool_i, zb0, zb1, zshp_0, zcs_eq, zcs_n, zcs_cs, zup_g, zup_n, zg_srock2, zg_stug2, zg_ssun, zg_ssun0, zg_srock, zg_srock0, zg_stug, zg_stug0, zg_sord, zg_sord0, zg_srep, zg_srep0, zg_scla, zg_scla0, zg_scon, zg_scon0, zg_swin, zg_swin0, zg_sleg, zg_sleg0, zg_spro, zg_sstp, zg_swrd, zu_srock2, zu_stug2, zu_ssun, zu_ssun0, zu_srock, zu_srock0, zu_stug, zu_stug0, zu_sord, zu_sord0, zu_srep, zu_srep0, zu_scla, zu_scla0, zu_scon, zu_scon0, zu_swin, zu_swin0, zu_sleg, zu_sleg0, zu_spro, zu_sstp, zu_swrd]
theorem T214f_1 (d L p0 p2 r2 r3 s4 : Nat) (C : zCt) {u : Nat} (hu : u < 4) (x1 x5 x6 pp qq : Int32) (v8 v9 v10 v11 : Value) (hx : (x6 = -1) = True) : zR (d + 1) 214 80 [.ref 201, .int x1, .int pp, .int qq, .int (nI (160 + 28 * u)), .int x5, .int x6, .int 1, v8, v9, v10, v11] [] (zZ L, zI C, zPd p0 p2 r2 r3 s4) = zR (d + 1) 214 80 [.ref 201, .int x1, .int pp, .int qq, .int (nI (160 + 28 * u)), .int x5, .int x6, .int 2, .int qq, v9, v10, v11] [] (zZ L, zI (zcs C 43 (zup (C 43) u 4 (zheld ((C 43 u 4).toInt64 + (10 * qq).toInt64) (-9999999) 9999999))), zPd p0 p2 r2 r3 s4) := by
  have e1 : zI C 202 (160 + 28 * u + 3 + 1) = C 43 u 4 := by rw [Nat.add_assoc]; exact zg_stug C hu (by decide)
  rw [e214_80v, if_neg (by decide)]
  simp +decide (disch := omega) only [e214_86, e214_91, e214_95, e214_96, e214_104, e214_138, e214_248, hx, T215, e1, zli, Nat.add_zero, zpre, ite_self, Nat.reduceAdd, zs1, zs2, zs3, zI_eqb, and_self, not_true_eq_false, if_true, if_false, ite_true, ite_false, not_false_eq_true, zBP, zBZ, zisO, zisA, zlen, decide_true, decide_false, Bool.and_self, Bool.and_true, Bool.true_and, cond_true, cond_false, zBG, zBR, zBU, zBV, zinb_n, zix_n, zlA, zlB, zlM, zlN, zlX, zlI, nI_add, Nat.add_eq_zero_iff, false_and, and_false, and_true, true_and, true_or, or_true, false_or, or_false, zbool_i, zb0, zb1, zshp_0, zcs_eq, zcs_n, zcs_cs, zup_g, zup_n, zg_srock2, zg_stug2, zg_ssun, zg_ssun0, zg_srock, zg_srock0, zg_stug, zg_stug0, zg_sord, zg_sord0, zg_srep, zg_srep0, zg_scla, zg_scla0, zg_scon, zg_scon0, zg_swin, zg_swin0, zg_sleg, zg_sleg0, zg_spro, zg_sstp, zg_swrd, zu_srock2, zu_stug2, zu_ssun, zu_ssun0, zu_srock, zu_srock0, zu_stug, zu_stug0, zu_sord, zu_sord0, zu_srep, zu_srep0, zu_scla, zu_scla0, zu_scon, zu_scon0, zu_swin, zu_swin0, zu_sleg, zu_sleg0, zu_spro, zu_sstp, zu_swrd]
theorem T214r_1 (d L p0 p2 r2 r3 s4 : Nat) (C : zCt) {r tn : Nat} (hr : r < 8) (x1 x4 x5 pp qq : Int32) (v8 v9 v10 v11 : Value) (ht : C 42 r 5 = nI tn) (ht1 : 1 ≤ tn) (ht2 : tn ≤ 99999) : ∃ w9 w10 w11, zR (d + 1) 214 80 [.ref 201, .int x1, .int pp, .int qq, .int x4, .int x5, .int (nI r), .int 1, v8, v9, v10, v11] [] (zZ L, zI C, zPd p0 p2 r2 r3 s4) = zR (d + 1) 214 80 [.ref 201, .int x1, .int pp, .int qq, .int x4, .int x5, .int (nI r), .int 2, .int qq, w9, w10, w11] [] (zZ L, zI (zcs C 42 (zup (zup (C 42) r 4 (zheld ((C 42 r 4).toInt64 + ((C 42 r 12 + 1000 * qq) / nI tn).toInt64) (-9999999) 9999999)) r 12 ((C 42 r 12 + 1000 * qq) - (C 42 r 12 + 1000 * qq) / nI tn * nI tn))), zPd p0 p2 r2 r3 s4) := by
  have hnm : ¬ nI r = -1 := by rw [nI_m (by omega)]; exact id
  have ht0 : ¬ nI tn = 0 := nI_ne0 (by omega) (by omega)
  have e1 : zI C 202 (30 + 16 * r + 3 + 1) = C 42 r 4 := by rw [Nat.add_assoc]; exact zg_srock C hr (by decide)
  have e2 : zI C 202 (30 + 16 * r + 11 + 1) = C 42 r 12 := by rw [Nat.add_assoc]; exact zg_srock C hr (by decide)
  refine ⟨.int (nI (30 + 16 * r)), .int (C 42 r 12 + 1000 * qq), .int ((C 42 r 12 + 1000 * qq) / nI tn), ?_⟩
  rw [e214_80v, if_neg (by decide)]
  simp +decide (disch := omega) only [e214_86, e214_91, e214_95, e214_96, e214_142, e214_219, e214_248, hnm, ht, ht0, T215, e1, e2, zli, Nat.add_zero, zpre, ite_self, Nat.reduceAdd, zs1, zs2, zs3, zI_eqb, and_self, not_true_eq_false, if_true, if_false, ite_true, ite_false, not_false_eq_true, zBP, zBZ, zisO, zisA, zlen, decide_true, decide_false, Bool.and_self, Bool.and_true, Bool.true_and, cond_true, cond_false, zBG, zBR, zBU, zBV, zinb_n, zix_n, zlA, zlB, zlM, zlN, zlX, zlI, nI_add, Nat.add_eq_zero_iff, false_and, and_false, and_true, true_and, true_or, or_true, false_or, or_false, zbool_i, zb0, zb1, zshp_0, zcs_eq, zcs_n, zcs_cs, zup_g, zup_n, zg_srock2, zg_stug2, zg_ssun, zg_ssun0, zg_srock, zg_srock0, zg_stug, zg_stug0, zg_sord, zg_sord0, zg_srep, zg_srep0, zg_scla, zg_scla0, zg_scon, zg_scon0, zg_swin, zg_swin0, zg_sleg, zg_sleg0, zg_spro, zg_sstp, zg_swrd, zu_srock2, zu_stug2, zu_ssun, zu_ssun0, zu_srock, zu_srock0, zu_stug, zu_stug0, zu_sord, zu_sord0, zu_srep, zu_srep0, zu_scla, zu_scla0, zu_scon, zu_scon0, zu_swin, zu_swin0, zu_sleg, zu_sleg0, zu_spro, zu_sstp, zu_swrd]
theorem A_burn (d1 d2 L p0 p2 r2 r3 s4 : Nat) (w : Nat → Nat → Nat) (u : Nat) (sa sb : Int32) (Ca Cb : zCt) (hu4 : u < 4) (hu : u < zix (Cb 40 0 6)) (X Y : Int32) (hs1 : Ca 392 0 1 = nI 2) (hs2 : Ca 393 0 0 = X) (hs3 : Ca 393 0 1 = Y) (h : zWu w u sa sb Ca Cb) : ∃ Ca' Cb', zR (d1 + 6) 60 0 [.ref 192, zmk, zmk, zmk] [] (zZ L, zI Ca, zPd p0 p2 2 (45 + 4 * u) s4) = some (none, (zZ L, zI Ca', zPd p0 p2 2 (45 + 4 * u) s4)) ∧ zR (d2 + 5) 214 0 [.ref 201, .int (nI u), .int (zheld X.toInt64 (-9) 9), .int (zheld Y.toInt64 (-9) 9), zmk, zmk, zmk, zmk, zmk, zmk, zmk, zmk] [] (zZ L, zI Cb, zPd p0 p2 r2 r3 s4) = some (none, (zZ L, zI Cb', zPd p0 p2 r2 r3 s4)) ∧ zWu w u sa sb Ca' Cb' ∧ zFa Ca Ca' ∧ zFb Cb Cb' ∧ (Ca' 392 0 4 = Ca 392 0 4 ∧ Cb' 40 0 6 = Cb 40 0 6 ∧ Cb' 40 0 0 = Cb 40 0 0) ∧ (Cb' 43 u 10 = Cb 43 u 10 ∧ Cb' 43 u 15 = Cb 43 u 15 ∧ Ca' 3 u 15 = Ca 3 u 15 ∧ ∀ g, 50 ≤ g → Cb' g = Cb g ∨ g = 410 ∨ g = 411) := by
  obtain ⟨hG, hS, hRR, ⟨hT, hU⟩, hO, hE, hC, hK, hW, hL, hP⟩ := id h
  have hGe := zRG_e hG
  obtain ⟨n, hn8, hn⟩ := hG.2.2.2.2.2.2.1
  obtain ⟨t, ht8, ht⟩ := hG.2.2.2.2.2.2.2.1
  have hn0 : Ca 0 0 5 = nI n := hGe.2.2.2.2.2.1.trans hn
  have ht0 : Ca 0 0 6 = nI t := hGe.2.2.2.2.2.2.1.trans ht
  have hue := zRU_e hU
  obtain ⟨k1, k2, k3, k4, k5, k6, k7, k8, k9, k10, k11, k12⟩ := id hU
  obtain ⟨cp, hcp, ecp⟩ := znine X
  obtain ⟨cq, hcq, ecq⟩ := znine Y
  obtain ⟨pp, hpp⟩ : ∃ pp, pp = zheld X.toInt64 (-9) 9 := ⟨_, rfl⟩
  obtain ⟨qq, hqq⟩ : ∃ qq, qq = zheld Y.toInt64 (-9) 9 := ⟨_, rfl⟩
  rw [← hpp] at ecp ⊢
  rw [← hqq] at ecq ⊢
  obtain ⟨fx, hfx, e5⟩ := id k6
  have hX := hpp.symm
  have hY := hqq.symm
  have n21 : ¬ nI 2 < 1 := by decide
  have n11 : ¬ nI 1 < 1 := by decide
  have m21 : (1 : Int32) ≤ nI 2 := by decide
  have m11 : (1 : Int32) ≤ nI 1 := by decide
  have p21 : nI 2 - 1 = nI 1 := rfl
  have p11 : nI 1 - 1 = nI 0 := rfl
  have hpre : ∀ Q, zR (d1 + 6) 60 25 [.ref 192, .int qq, zmk, zmk] [.int pp] (zZ L, zI (zcs Ca 392 (zup (zup (Ca 392) 0 1 (nI 1)) 0 1 (nI 0))), zPd p0 p2 2 (45 + 4 * u) s4) = Q → zR (d1 + 6) 60 0 [.ref 192, zmk, zmk, zmk] [] (zZ L, zI Ca, zPd p0 p2 2 (45 + 4 * u) s4) = Q := by
    intro Q hQ
    rw [← hQ]
    simp +decide (disch := omega) only [e60_0, e60_4, e60_12, e60_17, e56_0, e56_8, e56_10, T129, hs1, hs2, hs3, n21, n11, m21, m11, p21, p11, hX, hY, zpre, ite_self, zs1, zs2, zs3, zI_eqb, and_self, not_true_eq_false, if_true, if_false, ite_true, ite_false, not_false_eq_true, zBP, zBZ, zisO, zisA, zlen, decide_true, decide_false, Bool.and_self, Bool.and_true, Bool.true_and, cond_true, cond_false, zBG, zBR, zBU, zBV, zinb_n, zix_n, zlA, zlB, zlM, zlN, zlX, zlI, nI_add, Nat.add_eq_zero_iff, false_and, and_false, and_true, true_and, true_or, or_true, false_or, or_false, zbool_i, zb0, zb1, zshp_0, zcs_eq, zcs_n, zcs_cs, zup_g, zup_n, zp2_sun, zp2_rock, zp2_tug, zp2_contract, zp2_window, zp2_code, zp2_rbody, zp2_rstock, zp2_tfree, zp2_thold, zp2_tknown, zp2_ccells, zsh2_sun, zsh2_rock, zsh2_body, zsh2_stock, zsh2_tug, zsh2_free, zsh2_hold, zsh2_known, zsh2_contract, zsh2_window, zsh2_code, zsh2_cells, zg_nsun0, zg_nsun1, zg_nsun2, zg_nrock0, zg_nrock1, zg_nrock2, zg_nrock3, zg_nrock4, zg_nrock5, zg_nrock6, zg_nrock7, zg_nrock8, zg_nrock9, zg_nrock10, zg_nrock11, zg_nrock12, zg_nrock13, zg_nrock14, zg_ntug0, zg_ntug1, zg_ntug2, zg_ntug3, zg_ntug4, zg_ntug5, zg_ntug6, zg_ntug7, zg_ntug8, zg_ntug9, zg_ntug10, zg_ntug11, zg_ntug12, zg_ntug13, zg_ntug14, zg_ntug15, zg_ntug17, zg_ntug18, zg_ntug19, zg_ntug20, zg_ntug21, zg_ntug22, zg_ncon0, zg_ncon1, zg_ncon2, zg_ncon3, zg_ncon4, zg_ncon5, zg_ncon6, zg_nwin0, zg_nwin1, zg_nwin2, zg_nwin3, zg_nwin4, zg_nwin5, zg_ncode0, zg_ncode1, zg_ncode3, zg_nrule, zg_nstock, zg_nhold, zg_nknown, zg_nord, zg_nrep, zg_ncla, zg_ntou, zg_ncel, zu_nsun0, zu_nsun1, zu_nsun2, zu_nrock0, zu_nrock1, zu_nrock2, zu_nrock3, zu_nrock4, zu_nrock5, zu_nrock6, zu_nrock7, zu_nrock8, zu_nrock9, zu_nrock10, zu_nrock11, zu_nrock12, zu_nrock13, zu_nrock14, zu_ntug0, zu_ntug1, zu_ntug2, zu_ntug3, zu_ntug4, zu_ntug5, zu_ntug6, zu_ntug7, zu_ntug8, zu_ntug9, zu_ntug10, zu_ntug11, zu_ntug12, zu_ntug13, zu_ntug14, zu_ntug15, zu_ntug17, zu_ntug18, zu_ntug19, zu_ntug20, zu_ntug21, zu_ntug22, zu_ncon0, zu_ncon1, zu_ncon2, zu_ncon3, zu_ncon4, zu_ncon5, zu_ncon6, zu_nwin0, zu_nwin1, zu_nwin2, zu_nwin3, zu_nwin4, zu_nwin5, zu_ncode3, zu_nrule, zu_nstock, zu_nhold, zu_nknown, zu_nord, zu_nrep, zu_ncla, zu_ntou, zu_ncel]
  obtain ⟨K, hK2⟩ : ∃ K, K = zup (zup (Ca 392) 0 1 (nI 1)) 0 1 (nI 0) := ⟨_, rfl⟩
  rw [← hK2] at hpre
  have hK4 : K 0 4 = Ca 392 0 4 := by rw [hK2]; simp (disch := omega) only [zup_n]
  have h2 : zWu w u sa sb (zcs Ca 392 K) Cb := by
    unfold zWu
    simp (disch := omega) only [zcs_n]
    exact h
  by_cases hfuel : cp + cq ≤ fx
  case neg =>
    have hl1 : ¬ nI (cp + cq) ≤ nI fx := nI_ge (by omega) (by omega)
    have hl2 : nI fx < nI (cp + cq) := Int32.not_le.mp hl1
    refine ⟨zcs Ca 392 K, Cb, hpre _ ?_, ?_, h2, zFa_s (zFa_r _) (by omega), zFb_r _, ⟨by rw [zcs_eq]; exact hK4, rfl, rfl⟩, ⟨rfl, rfl, by rw [zcs_n _ _ (by decide)], fun g _ => Or.inl rfl⟩⟩
    · simp +decide (disch := omega) only [e60_25, e60_47, zab_c, ecp, ecq, hue, e5, hl1, hl2, zpre, ite_self, zs1, zs2, zs3, zI_eqb, and_self, not_true_eq_false, if_true, if_false, ite_true, ite_false, not_false_eq_true, zBP, zBZ, zisO, zisA, zlen, decide_true, decide_false, Bool.and_self, Bool.and_true, Bool.true_and, cond_true, cond_false, zBG, zBR, zBU, zBV, zinb_n, zix_n, zlA, zlB, zlM, zlN, zlX, zlI, nI_add, Nat.add_eq_zero_iff, false_and, and_false, and_true, true_and, true_or, or_true, false_or, or_false, zbool_i, zb0, zb1, zshp_0, zcs_eq, zcs_n, zcs_cs, zup_g, zup_n, zp2_sun, zp2_rock, zp2_tug, zp2_contract, zp2_window, zp2_code, zp2_rbody, zp2_rstock, zp2_tfree, zp2_thold, zp2_tknown, zp2_ccells, zsh2_sun, zsh2_rock, zsh2_body, zsh2_stock, zsh2_tug, zsh2_free, zsh2_hold, zsh2_known, zsh2_contract, zsh2_window, zsh2_code, zsh2_cells, zg_nsun0, zg_nsun1, zg_nsun2, zg_nrock0, zg_nrock1, zg_nrock2, zg_nrock3, zg_nrock4, zg_nrock5, zg_nrock6, zg_nrock7, zg_nrock8, zg_nrock9, zg_nrock10, zg_nrock11, zg_nrock12, zg_nrock13, zg_nrock14, zg_ntug0, zg_ntug1, zg_ntug2, zg_ntug3, zg_ntug4, zg_ntug5, zg_ntug6, zg_ntug7, zg_ntug8, zg_ntug9, zg_ntug10, zg_ntug11, zg_ntug12, zg_ntug13, zg_ntug14, zg_ntug15, zg_ntug17, zg_ntug18, zg_ntug19, zg_ntug20, zg_ntug21, zg_ntug22, zg_ncon0, zg_ncon1, zg_ncon2, zg_ncon3, zg_ncon4, zg_ncon5, zg_ncon6, zg_nwin0, zg_nwin1, zg_nwin2, zg_nwin3, zg_nwin4, zg_nwin5, zg_ncode0, zg_ncode1, zg_ncode3, zg_nrule, zg_nstock, zg_nhold, zg_nknown, zg_nord, zg_nrep, zg_ncla, zg_ntou, zg_ncel, zu_nsun0, zu_nsun1, zu_nsun2, zu_nrock0, zu_nrock1, zu_nrock2, zu_nrock3, zu_nrock4, zu_nrock5, zu_nrock6, zu_nrock7, zu_nrock8, zu_nrock9, zu_nrock10, zu_nrock11, zu_nrock12, zu_nrock13, zu_nrock14, zu_ntug0, zu_ntug1, zu_ntug2, zu_ntug3, zu_ntug4, zu_ntug5, zu_ntug6, zu_ntug7, zu_ntug8, zu_ntug9, zu_ntug10, zu_ntug11, zu_ntug12, zu_ntug13, zu_ntug14, zu_ntug15, zu_ntug17, zu_ntug18, zu_ntug19, zu_ntug20, zu_ntug21, zu_ntug22, zu_ncon0, zu_ncon1, zu_ncon2, zu_ncon3, zu_ncon4, zu_ncon5, zu_ncon6, zu_nwin0, zu_nwin1, zu_nwin2, zu_nwin3, zu_nwin4, zu_nwin5, zu_ncode3, zu_nrule, zu_nstock, zu_nhold, zu_nknown, zu_nord, zu_nrep, zu_ncla, zu_ntou, zu_ncel]
    · simp +decide (disch := omega) only [e214_0, e214_14, e214_18, e214_35, T202, ecp, ecq, e5, hl1, hl2, zpre, ite_self, Nat.reduceAdd, zs1, zs2, zs3, zI_eqb, and_self, not_true_eq_false, if_true, if_false, ite_true, ite_false, not_false_eq_true, zBP, zBZ, zisO, zisA, zlen, decide_true, decide_false, Bool.and_self, Bool.and_true, Bool.true_and, cond_true, cond_false, zBG, zBR, zBU, zBV, zinb_n, zix_n, zlA, zlB, zlM, zlN, zlX, zlI, nI_add, Nat.add_eq_zero_iff, false_and, and_false, and_true, true_and, true_or, or_true, false_or, or_false, zbool_i, zb0, zb1, zshp_0, zcs_eq, zcs_n, zcs_cs, zup_g, zup_n, zg_srock2, zg_stug2, zg_ssun, zg_ssun0, zg_srock, zg_srock0, zg_stug, zg_stug0, zg_sord, zg_sord0, zg_srep, zg_srep0, zg_scla, zg_scla0, zg_scon, zg_scon0, zg_swin, zg_swin0, zg_sleg, zg_sleg0, zg_spro, zg_sstp, zg_swrd, zu_srock2, zu_stug2, zu_ssun, zu_ssun0, zu_srock, zu_srock0, zu_stug, zu_stug0, zu_sord, zu_sord0, zu_srep, zu_srep0, zu_scla, zu_scla0, zu_scon, zu_scon0, zu_swin, zu_swin0, zu_sleg, zu_sleg0, zu_spro, zu_sstp, zu_swrd]
  have hl1 : nI (cp + cq) ≤ nI fx := nI_le hfuel (by omega)
  have hl2 : ¬ nI fx < nI (cp + cq) := Int32.not_lt.mpr hl1
  have q5 : nI fx - nI (cp + cq) = nI (fx - (cp + cq)) := nI_sub hfuel
  rcases k9 with hd | ⟨r, hr', hd⟩
  · have hdm := eq_true hd
    obtain ⟨U, hU3⟩ : ∃ U, U = zheld ((Cb 43 u 3).toInt64 + (10 * pp).toInt64) (-9999999) 9999999 := ⟨_, rfl⟩
    obtain ⟨V, hV4⟩ : ∃ V, V = zheld ((Cb 43 u 4).toInt64 + (10 * qq).toInt64) (-9999999) 9999999 := ⟨_, rfl⟩
    have zU : zB U := by rw [hU3]; exact zheld_B _
    have zV : zB V := by rw [hV4]; exact zheld_B _
    refine ⟨zcs (zcs Ca 392 K) 3 (zup (zup (zup (zup (Ca 3) u 5 (nI (fx - (cp + cq)))) u 12 (Cb 43 u 12 + nI (cp + cq))) u 3 U) u 4 V), zcs Cb 43 (zup (zup (zup (zup (Cb 43) u 5 (nI (fx - (cp + cq)))) u 12 (Cb 43 u 12 + nI (cp + cq))) u 3 U) u 4 V), hpre _ ?_, ?_, ?_, zFa_s (zFa_s (zFa_r _) (by omega)) (by omega), zFb_s (zFb_r _) (by omega), ⟨by rw [zcs_n _ _ (by decide), zcs_eq]; exact hK4, by rw [zcs_n _ _ (by decide)], by rw [zcs_n _ _ (by decide)]⟩, ⟨by simp (disch := omega) only [zcs_eq, zup_n], by simp (disch := omega) only [zcs_eq, zup_n], by simp (disch := omega) only [zcs_eq, zup_n], fun g _ => Or.inl (by simp (disch := omega) only [zcs_n])⟩⟩
    · rw [hU3, hV4]
      simp +decide (disch := omega) only [e60_25, e60_48, e60_56, e60_67, e60_93, e60_113, e87_0, e87_8, e4_0, e4_15, e4_33, e78_0, T85, T129, zab_c, ecp, ecq, hn0, hue, hd, znn_m, e5, hl1, hl2, q5, zpre, ite_self, zs1, zs2, zs3, zI_eqb, and_self, not_true_eq_false, if_true, if_false, ite_true, ite_false, not_false_eq_true, zBP, zBZ, zisO, zisA, zlen, decide_true, decide_false, Bool.and_self, Bool.and_true, Bool.true_and, cond_true, cond_false, zBG, zBR, zBU, zBV, zinb_n, zix_n, zlA, zlB, zlM, zlN, zlX, zlI, nI_add, Nat.add_eq_zero_iff, false_and, and_false, and_true, true_and, true_or, or_true, false_or, or_false, zbool_i, zb0, zb1, zshp_0, zcs_eq, zcs_n, zcs_cs, zup_g, zup_n, zp2_sun, zp2_rock, zp2_tug, zp2_contract, zp2_window, zp2_code, zp2_rbody, zp2_rstock, zp2_tfree, zp2_thold, zp2_tknown, zp2_ccells, zsh2_sun, zsh2_rock, zsh2_body, zsh2_stock, zsh2_tug, zsh2_free, zsh2_hold, zsh2_known, zsh2_contract, zsh2_window, zsh2_code, zsh2_cells, zg_nsun0, zg_nsun1, zg_nsun2, zg_nrock0, zg_nrock1, zg_nrock2, zg_nrock3, zg_nrock4, zg_nrock5, zg_nrock6, zg_nrock7, zg_nrock8, zg_nrock9, zg_nrock10, zg_nrock11, zg_nrock12, zg_nrock13, zg_nrock14, zg_ntug0, zg_ntug1, zg_ntug2, zg_ntug3, zg_ntug4, zg_ntug5, zg_ntug6, zg_ntug7, zg_ntug8, zg_ntug9, zg_ntug10, zg_ntug11, zg_ntug12, zg_ntug13, zg_ntug14, zg_ntug15, zg_ntug17, zg_ntug18, zg_ntug19, zg_ntug20, zg_ntug21, zg_ntug22, zg_ncon0, zg_ncon1, zg_ncon2, zg_ncon3, zg_ncon4, zg_ncon5, zg_ncon6, zg_nwin0, zg_nwin1, zg_nwin2, zg_nwin3, zg_nwin4, zg_nwin5, zg_ncode0, zg_ncode1, zg_ncode3, zg_nrule, zg_nstock, zg_nhold, zg_nknown, zg_nord, zg_nrep, zg_ncla, zg_ntou, zg_ncel, zu_nsun0, zu_nsun1, zu_nsun2, zu_nrock0, zu_nrock1, zu_nrock2, zu_nrock3, zu_nrock4, zu_nrock5, zu_nrock6, zu_nrock7, zu_nrock8, zu_nrock9, zu_nrock10, zu_nrock11, zu_nrock12, zu_nrock13, zu_nrock14, zu_ntug0, zu_ntug1, zu_ntug2, zu_ntug3, zu_ntug4, zu_ntug5, zu_ntug6, zu_ntug7, zu_ntug8, zu_ntug9, zu_ntug10, zu_ntug11, zu_ntug12, zu_ntug13, zu_ntug14, zu_ntug15, zu_ntug17, zu_ntug18, zu_ntug19, zu_ntug20, zu_ntug21, zu_ntug22, zu_ncon0, zu_ncon1, zu_ncon2, zu_ncon3, zu_ncon4, zu_ncon5, zu_ncon6, zu_nwin0, zu_nwin1, zu_nwin2, zu_nwin3, zu_nwin4, zu_nwin5, zu_ncode3, zu_nrule, zu_nstock, zu_nhold, zu_nknown, zu_nord, zu_nrep, zu_ncla, zu_ntou, zu_ncel]
    · have hl : ∀ (F : zGp) (v8 v9 v10 v11 : Value), F u 3 = Cb 43 u 3 → F u 4 = Cb 43 u 4 → zR (d2 + 5) 214 80 [.ref 201, .int (nI u), .int pp, .int qq, .int (nI (160 + 28 * u)), .int (nI (cp + cq)), .int (Cb 43 u 9), .int 0, v8, v9, v10, v11] [] (zZ L, zI (zcs Cb 43 F), zPd p0 p2 r2 r3 s4) = some (none, (zZ L, zI (zcs Cb 43 (zup (zup F u 3 U) u 4 V)), zPd p0 p2 r2 r3 s4)) := by
        intro F v8 v9 v10 v11 f3 f4
        rw [T214f_0 (d2 + 4) L p0 p2 r2 r3 s4 _ hu4 _ _ _ _ _ _ _ _ _ hdm, T214f_1 (d2 + 4) L p0 p2 r2 r3 s4 _ hu4 _ _ _ _ _ _ _ _ _ hdm, e214_80v, if_pos (by decide), e214_254]
        simp (disch := omega) only [zcs_cs, zcs_eq, zup_n]
        rw [f3, f4, hU3, hV4]
      have hl := hl (zup (zup (Cb 43) u 5 (nI (fx - (cp + cq)))) u 12 (Cb 43 u 12 + nI (cp + cq))) zmk zmk zmk zmk (by simp (disch := omega) only [zup_n]) (by simp (disch := omega) only [zup_n])
      simp +decide (disch := omega) only [e214_0, e214_14, e214_18, e214_36, T202, ecp, ecq, e5, hl1, hl2, q5, hl, zpre, ite_self, Nat.reduceAdd, zs1, zs2, zs3, zI_eqb, and_self, not_true_eq_false, if_true, if_false, ite_true, ite_false, not_false_eq_true, zBP, zBZ, zisO, zisA, zlen, decide_true, decide_false, Bool.and_self, Bool.and_true, Bool.true_and, cond_true, cond_false, zBG, zBR, zBU, zBV, zinb_n, zix_n, zlA, zlB, zlM, zlN, zlX, zlI, nI_add, Nat.add_eq_zero_iff, false_and, and_false, and_true, true_and, true_or, or_true, false_or, or_false, zbool_i, zb0, zb1, zshp_0, zcs_eq, zcs_n, zcs_cs, zup_g, zup_n, zg_srock2, zg_stug2, zg_ssun, zg_ssun0, zg_srock, zg_srock0, zg_stug, zg_stug0, zg_sord, zg_sord0, zg_srep, zg_srep0, zg_scla, zg_scla0, zg_scon, zg_scon0, zg_swin, zg_swin0, zg_sleg, zg_sleg0, zg_spro, zg_sstp, zg_swrd, zu_srock2, zu_stug2, zu_ssun, zu_ssun0, zu_srock, zu_srock0, zu_stug, zu_stug0, zu_sord, zu_sord0, zu_srep, zu_srep0, zu_scla, zu_scla0, zu_scon, zu_scon0, zu_swin, zu_swin0, zu_sleg, zu_sleg0, zu_spro, zu_sstp, zu_swrd]
    · refine zWu_t h2 _ _ (fun i hi => by simp (disch := exact hi) only [zup_row]; rw [zcs_n _ _ (by decide)]) (fun i hi => by simp (disch := exact hi) only [zup_row]) ?_
      unfold zRU
      simp (disch := omega) only [zup_g, zup_n]
      refine ⟨?_, k2, k3, k4, ?_, ⟨fx - (cp + cq), by omega, rfl⟩, k7, k8, Or.inl hd, k10, k11, ?_⟩
      · intro f hf hf1 hf2
        by_cases ef : f = 3 ∨ f = 4 ∨ f = 5 ∨ f = 12
        · rcases ef with rfl | rfl | rfl | rfl <;> simp (disch := omega) only [zup_g, zup_n]
        · simp (disch := omega) only [zup_n]; exact k1 f hf hf1 hf2
      · intro f hf hf2
        by_cases ef : f = 3 ∨ f = 4
        · rcases ef with rfl | rfl <;> simp (disch := omega) only [zup_g, zup_n]
          · exact zU
          · exact zV
        · simp (disch := omega) only [zup_n]; exact k5 f hf hf2
      · first | exact k12 | (rcases k12 with q | ⟨z1, z2, z3⟩; exact Or.inl q; exact Or.inr ⟨z1, fun j hj => by simp (disch := omega) only [zup_n]; exact z2 j hj, z3⟩)
  · have hr := hr'
    rw [hn, zix_n (by omega)] at hr
    have hr8 : r < 8 := by omega
    have hk : 0 ≤ nI r ∧ ¬ nI n ≤ nI r := ⟨nI_pos' (by omega), nI_ge hr (by omega)⟩
    have hr1 := hRR r hr'
    have hre := zRR1_e hr1
    obtain ⟨j1, j2, j3, j4, ⟨tn, ht1, ht2, etn⟩, j6, j7, j8, j9⟩ := id hr1
    have htn1 : ¬ nI tn < 1 := nI_nlt (a := tn) (b := 1) (by omega) (by omega)
    have htn1w := Int32.not_lt.mp htn1
    have htn0 : ¬ nI tn = 0 := nI_ne0 (by omega) (by omega)
    obtain ⟨U, hU3⟩ : ∃ U, U = zheld ((Cb 42 r 3).toInt64 + ((Cb 42 r 11 + 1000 * pp) / nI tn).toInt64) (-9999999) 9999999 := ⟨_, rfl⟩
    obtain ⟨V, hV4⟩ : ∃ V, V = zheld ((Cb 42 r 4).toInt64 + ((Cb 42 r 12 + 1000 * qq) / nI tn).toInt64) (-9999999) 9999999 := ⟨_, rfl⟩
    obtain ⟨R1, hR1⟩ : ∃ x, x = (Cb 42 r 11 + 1000 * pp) - (Cb 42 r 11 + 1000 * pp) / nI tn * nI tn := ⟨_, rfl⟩
    obtain ⟨R2, hR2⟩ : ∃ x, x = (Cb 42 r 12 + 1000 * qq) - (Cb 42 r 12 + 1000 * qq) / nI tn * nI tn := ⟨_, rfl⟩
    have zU : zB U := by rw [hU3]; exact zheld_B _
    have zV : zB V := by rw [hV4]; exact zheld_B _
    have hnm : ¬ nI r = -1 := by rw [nI_m (by omega)]; exact id
    refine ⟨zcs (zcs (zcs Ca 392 K) 3 (zup (zup (Ca 3) u 5 (nI (fx - (cp + cq)))) u 12 (Cb 43 u 12 + nI (cp + cq)))) 2 (zup (zup (zup (zup (zup (zup (Ca 2) r 11 (Cb 42 r 11 + 1000 * pp)) r 12 (Cb 42 r 12 + 1000 * qq)) r 3 U) r 4 V) r 11 R1) r 12 R2), zcs (zcs Cb 43 (zup (zup (Cb 43) u 5 (nI (fx - (cp + cq)))) u 12 (Cb 43 u 12 + nI (cp + cq)))) 42 (zup (zup (zup (zup (Cb 42) r 3 U) r 11 R1) r 4 V) r 12 R2), hpre _ ?_, ?_, ?_, zFa_s (zFa_s (zFa_s (zFa_r _) (by omega)) (by omega)) (by omega), zFb_s (zFb_s (zFb_r _) (by omega)) (by omega), ⟨by rw [zcs_n _ _ (by decide), zcs_n _ _ (by decide), zcs_eq]; exact hK4, by rw [zcs_n _ _ (by decide), zcs_n _ _ (by decide)], by rw [zcs_n _ _ (by decide), zcs_n _ _ (by decide)]⟩, ⟨by simp (disch := omega) only [zcs_eq, zcs_n, zup_n], by simp (disch := omega) only [zcs_eq, zcs_n, zup_n], by simp (disch := omega) only [zcs_eq, zcs_n, zup_n], fun g _ => Or.inl (by simp (disch := omega) only [zcs_n])⟩⟩
    · rw [hU3, hV4, hR1, hR2]
      simp +decide (disch := omega) only [e60_25, e60_48, e60_56, e60_67, e60_70, e60_90, e60_113, e87_0, e87_8, e78_0, e37_0, e37_8, e37_9, e37_64, e4_0, e4_15, e4_33, T85, T129, hk, zab_c, ecp, ecq, hn0, hue, hre, hd, znn_n, e5, hl1, hl2, q5, etn, htn1, htn1w, htn0, zpre, ite_self, zs1, zs2, zs3, zI_eqb, and_self, not_true_eq_false, if_true, if_false, ite_true, ite_false, not_false_eq_true, zBP, zBZ, zisO, zisA, zlen, decide_true, decide_false, Bool.and_self, Bool.and_true, Bool.true_and, cond_true, cond_false, zBG, zBR, zBU, zBV, zinb_n, zix_n, zlA, zlB, zlM, zlN, zlX, zlI, nI_add, Nat.add_eq_zero_iff, false_and, and_false, and_true, true_and, true_or, or_true, false_or, or_false, zbool_i, zb0, zb1, zshp_0, zcs_eq, zcs_n, zcs_cs, zup_g, zup_n, zp2_sun, zp2_rock, zp2_tug, zp2_contract, zp2_window, zp2_code, zp2_rbody, zp2_rstock, zp2_tfree, zp2_thold, zp2_tknown, zp2_ccells, zsh2_sun, zsh2_rock, zsh2_body, zsh2_stock, zsh2_tug, zsh2_free, zsh2_hold, zsh2_known, zsh2_contract, zsh2_window, zsh2_code, zsh2_cells, zg_nsun0, zg_nsun1, zg_nsun2, zg_nrock0, zg_nrock1, zg_nrock2, zg_nrock3, zg_nrock4, zg_nrock5, zg_nrock6, zg_nrock7, zg_nrock8, zg_nrock9, zg_nrock10, zg_nrock11, zg_nrock12, zg_nrock13, zg_nrock14, zg_ntug0, zg_ntug1, zg_ntug2, zg_ntug3, zg_ntug4, zg_ntug5, zg_ntug6, zg_ntug7, zg_ntug8, zg_ntug9, zg_ntug10, zg_ntug11, zg_ntug12, zg_ntug13, zg_ntug14, zg_ntug15, zg_ntug17, zg_ntug18, zg_ntug19, zg_ntug20, zg_ntug21, zg_ntug22, zg_ncon0, zg_ncon1, zg_ncon2, zg_ncon3, zg_ncon4, zg_ncon5, zg_ncon6, zg_nwin0, zg_nwin1, zg_nwin2, zg_nwin3, zg_nwin4, zg_nwin5, zg_ncode0, zg_ncode1, zg_ncode3, zg_nrule, zg_nstock, zg_nhold, zg_nknown, zg_nord, zg_nrep, zg_ncla, zg_ntou, zg_ncel, zu_nsun0, zu_nsun1, zu_nsun2, zu_nrock0, zu_nrock1, zu_nrock2, zu_nrock3, zu_nrock4, zu_nrock5, zu_nrock6, zu_nrock7, zu_nrock8, zu_nrock9, zu_nrock10, zu_nrock11, zu_nrock12, zu_nrock13, zu_nrock14, zu_ntug0, zu_ntug1, zu_ntug2, zu_ntug3, zu_ntug4, zu_ntug5, zu_ntug6, zu_ntug7, zu_ntug8, zu_ntug9, zu_ntug10, zu_ntug11, zu_ntug12, zu_ntug13, zu_ntug14, zu_ntug15, zu_ntug17, zu_ntug18, zu_ntug19, zu_ntug20, zu_ntug21, zu_ntug22, zu_ncon0, zu_ncon1, zu_ncon2, zu_ncon3, zu_ncon4, zu_ncon5, zu_ncon6, zu_nwin0, zu_nwin1, zu_nwin2, zu_nwin3, zu_nwin4, zu_nwin5, zu_ncode3, zu_nrule, zu_nstock, zu_nhold, zu_nknown, zu_nord, zu_nrep, zu_ncla, zu_ntou, zu_ncel]
    · have hl : ∀ (D : zCt) (v8 v9 v10 v11 : Value), D 42 = Cb 42 → zR (d2 + 5) 214 80 [.ref 201, .int (nI u), .int pp, .int qq, .int (nI (160 + 28 * u)), .int (nI (cp + cq)), .int (nI r), .int 0, v8, v9, v10, v11] [] (zZ L, zI D, zPd p0 p2 r2 r3 s4) = some (none, (zZ L, zI (zcs D 42 (zup (zup (zup (zup (Cb 42) r 3 U) r 11 R1) r 4 V) r 12 R2)), zPd p0 p2 r2 r3 s4)) := by
        intro D v8 v9 v10 v11 hD
        obtain ⟨a9, a10, a11, ea⟩ := T214r_0 (d2 + 4) L p0 p2 r2 r3 s4 D hr8 (nI u) (nI (160 + 28 * u)) (nI (cp + cq)) pp qq v8 v9 v10 v11 (by rw [hD]; exact etn) ht1 ht2
        rw [ea]
        obtain ⟨b9, b10, b11, eb⟩ := T214r_1 (d2 + 4) L p0 p2 r2 r3 s4 (zcs D 42 (zup (zup (D 42) r 3 (zheld ((D 42 r 3).toInt64 + ((D 42 r 11 + 1000 * pp) / nI tn).toInt64) (-9999999) 9999999)) r 11 ((D 42 r 11 + 1000 * pp) - (D 42 r 11 + 1000 * pp) / nI tn * nI tn))) hr8 (nI u) (nI (160 + 28 * u)) (nI (cp + cq)) pp qq (.int pp) a9 a10 a11 (by rw [zcs_eq, hD]; simp (disch := omega) only [zup_n]; exact etn) ht1 ht2
        rw [eb, e214_80v, if_pos (by decide), e214_254]
        simp (disch := omega) only [zcs_cs, zcs_eq, zup_n, hD]
        rw [hU3, hV4, hR1, hR2]
      have hl := hl (zcs Cb 43 (zup (zup (Cb 43) u 5 (nI (fx - (cp + cq)))) u 12 (Cb 43 u 12 + nI (cp + cq)))) zmk zmk zmk zmk (by rw [zcs_n _ _ (by decide)])
      simp +decide (disch := omega) only [e214_0, e214_14, e214_18, e214_36, T202, ecp, ecq, e5, hd, hl1, hl2, q5, hl, zpre, ite_self, Nat.reduceAdd, zs1, zs2, zs3, zI_eqb, and_self, not_true_eq_false, if_true, if_false, ite_true, ite_false, not_false_eq_true, zBP, zBZ, zisO, zisA, zlen, decide_true, decide_false, Bool.and_self, Bool.and_true, Bool.true_and, cond_true, cond_false, zBG, zBR, zBU, zBV, zinb_n, zix_n, zlA, zlB, zlM, zlN, zlX, zlI, nI_add, Nat.add_eq_zero_iff, false_and, and_false, and_true, true_and, true_or, or_true, false_or, or_false, zbool_i, zb0, zb1, zshp_0, zcs_eq, zcs_n, zcs_cs, zup_g, zup_n, zg_srock2, zg_stug2, zg_ssun, zg_ssun0, zg_srock, zg_srock0, zg_stug, zg_stug0, zg_sord, zg_sord0, zg_srep, zg_srep0, zg_scla, zg_scla0, zg_scon, zg_scon0, zg_swin, zg_swin0, zg_sleg, zg_sleg0, zg_spro, zg_sstp, zg_swrd, zu_srock2, zu_stug2, zu_ssun, zu_ssun0, zu_srock, zu_srock0, zu_stug, zu_stug0, zu_sord, zu_sord0, zu_srep, zu_srep0, zu_scla, zu_scla0, zu_scon, zu_scon0, zu_swin, zu_swin0, zu_sleg, zu_sleg0, zu_spro, zu_sstp, zu_swrd]
    · have hA := zWu_t h2 (zup (zup (Ca 3) u 5 (nI (fx - (cp + cq)))) u 12 (Cb 43 u 12 + nI (cp + cq))) (zup (zup (Cb 43) u 5 (nI (fx - (cp + cq)))) u 12 (Cb 43 u 12 + nI (cp + cq))) (fun i hi => by simp (disch := exact hi) only [zup_row]; rw [zcs_n _ _ (by decide)]) (fun i hi => by simp (disch := exact hi) only [zup_row]) (sa' := sa) (sb' := sb) (by
        unfold zRU
        simp (disch := omega) only [zup_g, zup_n]
        refine ⟨?_, k2, k3, k4, ?_, ⟨fx - (cp + cq), by omega, rfl⟩, k7, k8, Or.inr ⟨r, hr', hd⟩, k10, k11, ?_⟩
        · intro f hf hf1 hf2
          by_cases ef : f = 5 ∨ f = 12
          · rcases ef with rfl | rfl <;> simp (disch := omega) only [zup_g, zup_n]
          · simp (disch := omega) only [zup_n]; exact k1 f hf hf1 hf2
        · intro f hf hf2; simp (disch := omega) only [zup_n]; exact k5 f hf hf2
        · first | exact k12 | (rcases k12 with q | ⟨z1, z2, z3⟩; exact Or.inl q; exact Or.inr ⟨z1, fun j hj => by simp (disch := omega) only [zup_n]; exact z2 j hj, z3⟩))
      refine zWu_r hA r _ _ (fun i hi => by simp (disch := exact hi) only [zup_row]; simp (disch := omega) only [zcs_n]) (fun i hi => by simp (disch := exact hi) only [zup_row]; simp (disch := omega) only [zcs_n]) ?_
      unfold zRR1
      simp (disch := omega) only [zup_g, zup_n]
      refine ⟨?_, j2, j3, ?_, ⟨tn, ht1, ht2, etn⟩, j6, j7, j8, j9⟩
      · intro f hf hf1
        by_cases ef : f = 3 ∨ f = 4 ∨ f = 11 ∨ f = 12
        · rcases ef with rfl | rfl | rfl | rfl <;> simp (disch := omega) only [zup_g, zup_n]
        · simp (disch := omega) only [zup_n]; exact j1 f hf hf1
      · intro f hf hf2
        by_cases ef : f = 3 ∨ f = 4
        · rcases ef with rfl | rfl <;> simp (disch := omega) only [zup_g, zup_n]
          · exact zU
          · exact zV
        · simp (disch := omega) only [zup_n]; exact j4 f hf hf2
