/-! THE PROGRAM: the pair (2), printed by wip/gen/pub90.py -/
theorem PRG (d L p0 p2 r2 r3 s4 p nt N J c : Nat) (hp : p < 4) (A : zCt) (h10 : A 401 0 10 = 0) (h13 : A 401 0 13 = nI N) (h14 : A 401 0 14 = nI J) (h15 : A 401 0 15 = nI c) (hN : N + J ≤ 120) : ∃ D, zR d 178 85 [.ref 201, .int (nI p), .int (nI nt), zmk] [] (zZ L, zI A, zPd p0 p2 r2 r3 s4) = some (some (.int (nI c)), (zZ L, zI D, zPd p0 p2 r2 r3 s4)) ∧ (∀ g, g ≠ 40 → g ≠ 50 + p → g ≠ 54 + p → D g = A g) ∧ (∀ f, f ≠ 14 + p → D 40 0 f = A 40 0 f) ∧ D 40 0 (14 + p) = nI N ∧ (∀ k f, k < N → f < 4 → D (50 + p) k f = A 405 0 (4 * k + f)) ∧ (∀ k f, k < J → f < 2 → D (54 + p) k f = A 406 0 (2 * k + f)) := by
  have m0 : (1086 : Int32) + 782 * nI p = nI (1086 + 782 * p) := by show nI 1086 + nI 782 * nI p = _; rw [nI_mul, nI_add]
  obtain ⟨B, hB⟩ : ∃ B, B = (zcs A 40 (zup (zup (A 40) 0 (14 + p) 0) 0 (14 + p) (nI N))) := ⟨_, rfl⟩
  have b401 : B 401 = A 401 := by rw [hB, zcs_n _ _ (by decide)]
  obtain ⟨C1, t1, e1, e2⟩ := T178s d L p0 p2 r2 r3 s4 N p hp (by omega) (4 * N) 0 B (by rw [b401]; exact h13) (by omega)
  have c401 : C1 401 = A 401 := by rw [e1 401 (by omega), b401]
  obtain ⟨C2, t2, e3, e4⟩ := T178w d L p0 p2 r2 r3 s4 J p hp (by omega) (2 * J) 0 C1 (by rw [c401]; exact h14) (by omega)
  have d15 : C2 401 0 15 = nI c := by rw [e3 401 (by omega), c401]; exact h15
  have t3 : zR d 178 117 [.ref 201, .int (nI p), .int (nI (1086 + 782 * p)), zmk] [] (zZ L, zI (zcs A 40 (zup (A 40) 0 (14 + p) 0)), zPd p0 p2 r2 r3 s4) = zR d 178 129 [.ref 201, .int (nI p), .int (nI (1086 + 782 * p)), .int 0] [] (zZ L, zI B, zPd p0 p2 r2 r3 s4) := by
    rw [hB]
    simp +decide (disch := omega) only [e178_117, h13, zpre, ite_self, Nat.reduceAdd, zs1, zs2, zs3, zI_eqb, and_self, not_true_eq_false, if_true, if_false, ite_true, ite_false, not_false_eq_true, zBP, zBZ, zisO, zisA, zlen, decide_true, decide_false, Bool.and_self, Bool.and_true, Bool.true_and, cond_true, cond_false, zBG, zBR, zBU, zBV, zinb_n, zix_n, zlA, zlB, zlM, zlN, zlX, zlI, nI_add, Nat.add_eq_zero_iff, false_and, and_false, and_true, true_and, true_or, or_true, false_or, or_false, zbool_i, zb0, zb1, zshp_0, zcs_eq, zcs_n, zcs_cs, zup_g, zup_n, zg_srock2, zg_stug2, zg_ssun, zg_ssun0, zg_srock, zg_srock0, zg_stug, zg_stug0, zg_sord, zg_sord0, zg_srep, zg_srep0, zg_scla, zg_scla0, zg_scon, zg_scon0, zg_swin, zg_swin0, zg_sleg, zg_sleg0, zg_spro, zg_sstp, zg_swrd, zu_srock2, zu_stug2, zu_ssun, zu_ssun0, zu_srock, zu_srock0, zu_stug, zu_stug0, zu_sord, zu_sord0, zu_srep, zu_srep0, zu_scla, zu_scla0, zu_scon, zu_scon0, zu_swin, zu_swin0, zu_sleg, zu_sleg0, zu_spro, zu_sstp, zu_swrd]
  have t0 : zR d 178 85 [.ref 201, .int (nI p), .int (nI nt), zmk] [] (zZ L, zI A, zPd p0 p2 r2 r3 s4) = zR d 178 117 [.ref 201, .int (nI p), .int (nI (1086 + 782 * p)), zmk] [] (zZ L, zI (zcs A 40 (zup (A 40) 0 (14 + p) 0)), zPd p0 p2 r2 r3 s4) := by
    simp +decide (disch := omega) only [e178_85, m0, h10, zpre, ite_self, Nat.reduceAdd, zs1, zs2, zs3, zI_eqb, and_self, not_true_eq_false, if_true, if_false, ite_true, ite_false, not_false_eq_true, zBP, zBZ, zisO, zisA, zlen, decide_true, decide_false, Bool.and_self, Bool.and_true, Bool.true_and, cond_true, cond_false, zBG, zBR, zBU, zBV, zinb_n, zix_n, zlA, zlB, zlM, zlN, zlX, zlI, nI_add, Nat.add_eq_zero_iff, false_and, and_false, and_true, true_and, true_or, or_true, false_or, or_false, zbool_i, zb0, zb1, zshp_0, zcs_eq, zcs_n, zcs_cs, zup_g, zup_n, zg_srock2, zg_stug2, zg_ssun, zg_ssun0, zg_srock, zg_srock0, zg_stug, zg_stug0, zg_sord, zg_sord0, zg_srep, zg_srep0, zg_scla, zg_scla0, zg_scon, zg_scon0, zg_swin, zg_swin0, zg_sleg, zg_sleg0, zg_spro, zg_sstp, zg_swrd, zu_srock2, zu_stug2, zu_ssun, zu_ssun0, zu_srock, zu_srock0, zu_stug, zu_stug0, zu_sord, zu_sord0, zu_srep, zu_srep0, zu_scla, zu_scla0, zu_scon, zu_scon0, zu_swin, zu_swin0, zu_sleg, zu_sleg0, zu_spro, zu_sstp, zu_swrd]
  refine ⟨C2, ?_, fun g a b e => by rw [e3 g e, e1 g b, hB, zcs_n _ _ a], fun f hf => by rw [e3 40 (by omega), e1 40 (by omega), hB, zcs_eq, zup_n _ _ (by omega), zup_n _ _ (by omega)], by rw [e3 40 (by omega), e1 40 (by omega), hB, zcs_eq, zup_g], fun k f hk hf => by rw [e3 (50 + p) (by omega), e2 k f hf, if_pos ⟨Nat.zero_le _, hk⟩, hB, zcs_n _ _ (by decide)], fun k f hk hf => by rw [e4 k f hf, if_pos ⟨Nat.zero_le _, hk⟩, e1 406 (by omega), hB, zcs_n _ _ (by decide)]⟩
  rw [zn0] at t1 t2
  rw [t0, t3, t1, e178_161, t2, e178_197]
  simp +decide (disch := omega) only [d15, zpre, ite_self, Nat.reduceAdd, zs1, zs2, zs3, zI_eqb, and_self, not_true_eq_false, if_true, if_false, ite_true, ite_false, not_false_eq_true, zBP, zBZ, zisO, zisA, zlen, decide_true, decide_false, Bool.and_self, Bool.and_true, Bool.true_and, cond_true, cond_false, zBG, zBR, zBU, zBV, zinb_n, zix_n, zlA, zlB, zlM, zlN, zlX, zlI, nI_add, Nat.add_eq_zero_iff, false_and, and_false, and_true, true_and, true_or, or_true, false_or, or_false, zbool_i, zb0, zb1, zshp_0, zcs_eq, zcs_n, zcs_cs, zup_g, zup_n, zg_srock2, zg_stug2, zg_ssun, zg_ssun0, zg_srock, zg_srock0, zg_stug, zg_stug0, zg_sord, zg_sord0, zg_srep, zg_srep0, zg_scla, zg_scla0, zg_scon, zg_scon0, zg_swin, zg_swin0, zg_sleg, zg_sleg0, zg_spro, zg_sstp, zg_swrd, zu_srock2, zu_stug2, zu_ssun, zu_ssun0, zu_srock, zu_srock0, zu_stug, zu_stug0, zu_sord, zu_sord0, zu_srep, zu_srep0, zu_scla, zu_scla0, zu_scon, zu_scon0, zu_swin, zu_swin0, zu_sleg, zu_sleg0, zu_spro, zu_sstp, zu_swrd]
theorem PRB (d L p0 p2 r2 r3 s4 p nt f : Nat) (hp : p < 4) (A : zCt) (h10 : A 401 0 10 = 1) (h9 : A 401 0 9 = nI f) : ∃ D, zR d 178 85 [.ref 201, .int (nI p), .int (nI nt), zmk] [] (zZ L, zI A, zPd p0 p2 r2 r3 s4) = some (some (.int (-100 - nI f)), (zZ L, zI D, zPd p0 p2 r2 r3 s4)) ∧ (∀ g, g ≠ 40 → D g = A g) ∧ (∀ f, f ≠ 14 + p → D 40 0 f = A 40 0 f) ∧ D 40 0 (14 + p) = 0 := by
  have m0 : (1086 : Int32) + 782 * nI p = nI (1086 + 782 * p) := by show nI 1086 + nI 782 * nI p = _; rw [nI_mul, nI_add]
  refine ⟨(zcs A 40 (zup (A 40) 0 (14 + p) 0)), ?_, fun g a => by rw [zcs_n _ _ a], fun f hf => by rw [zcs_eq, zup_n _ _ (by omega)], by rw [zcs_eq, zup_g]⟩
  simp +decide (disch := omega) only [e178_85, e178_109, m0, h10, h9, zpre, ite_self, Nat.reduceAdd, zs1, zs2, zs3, zI_eqb, and_self, not_true_eq_false, if_true, if_false, ite_true, ite_false, not_false_eq_true, zBP, zBZ, zisO, zisA, zlen, decide_true, decide_false, Bool.and_self, Bool.and_true, Bool.true_and, cond_true, cond_false, zBG, zBR, zBU, zBV, zinb_n, zix_n, zlA, zlB, zlM, zlN, zlX, zlI, nI_add, Nat.add_eq_zero_iff, false_and, and_false, and_true, true_and, true_or, or_true, false_or, or_false, zbool_i, zb0, zb1, zshp_0, zcs_eq, zcs_n, zcs_cs, zup_g, zup_n, zg_srock2, zg_stug2, zg_ssun, zg_ssun0, zg_srock, zg_srock0, zg_stug, zg_stug0, zg_sord, zg_sord0, zg_srep, zg_srep0, zg_scla, zg_scla0, zg_scon, zg_scon0, zg_swin, zg_swin0, zg_sleg, zg_sleg0, zg_spro, zg_sstp, zg_swrd, zu_srock2, zu_stug2, zu_ssun, zu_ssun0, zu_srock, zu_srock0, zu_stug, zu_stug0, zu_sord, zu_sord0, zu_srep, zu_srep0, zu_scla, zu_scla0, zu_scon, zu_scon0, zu_swin, zu_swin0, zu_sleg, zu_sleg0, zu_spro, zu_sstp, zu_swrd]

theorem zLay_0 (A S W : zGp) : zLay 0 0 A S W (fun _ => 0) := ⟨0, rfl, by omega, rfl, fun k hk => absurd hk (Nat.not_lt_zero k), by show 0 + 0 ≤ 120; omega, rfl, fun k hk => absurd hk (Nat.not_lt_zero k)⟩
/-- THE PAIR program -/
theorem pr_program (d L : Nat) (C : zCt) (hR : zRep C) (x : Int32) : zPair (d + 20) 126 178 [.ref 1, .int x, zmk] [.ref 201, .int x, zmk, zmk] L C := by
  obtain ⟨⟨w, hG, hrest⟩, hX⟩ := id hR
  obtain ⟨hIm, hKe, hK01, hTp, hWt, hH0, hH1⟩ := id hX
  rintro ⟨p0, p2, r2, r3, s4⟩
  by_cases h1 : 0 ≤ x ∧ x ≤ 3
  case neg =>
    refine ⟨-1000000001, (zcs C 201 (zup (C 201) 0 4 0)), (p0, p2, r2, r3, s4), ?_, (zcs (zcs C 201 (zup (C 201) 0 4 0)) 401 (zup (zup (C 401) 0 7 (C 401 0 4)) 0 4 0)), ?_, ⟨?_, ?_⟩, ?_⟩
    · simp +decide (disch := omega) only [e126_0, e126_16, e126_19, T107, h1, List.cons_append, List.nil_append, zpre, ite_self, zs1, zs2, zs3, zI_eqb, and_self, not_true_eq_false, if_true, if_false, ite_true, ite_false, not_false_eq_true, zBP, zBZ, zisO, zisA, zlen, decide_true, decide_false, Bool.and_self, Bool.and_true, Bool.true_and, cond_true, cond_false, zBG, zBR, zBU, zBV, zinb_n, zix_n, zlA, zlB, zlM, zlN, zlX, zlI, nI_add, Nat.add_eq_zero_iff, false_and, and_false, and_true, true_and, true_or, or_true, false_or, or_false, zbool_i, zb0, zb1, zshp_0, zcs_eq, zcs_n, zcs_cs, zup_g, zup_n, zp2_sun, zp2_rock, zp2_tug, zp2_contract, zp2_window, zp2_code, zp2_rbody, zp2_rstock, zp2_tfree, zp2_thold, zp2_tknown, zp2_ccells, zsh2_sun, zsh2_rock, zsh2_body, zsh2_stock, zsh2_tug, zsh2_free, zsh2_hold, zsh2_known, zsh2_contract, zsh2_window, zsh2_code, zsh2_cells, zg_nsun0, zg_nsun1, zg_nsun2, zg_nrock0, zg_nrock1, zg_nrock2, zg_nrock3, zg_nrock4, zg_nrock5, zg_nrock6, zg_nrock7, zg_nrock8, zg_nrock9, zg_nrock10, zg_nrock11, zg_nrock12, zg_nrock13, zg_nrock14, zg_ntug0, zg_ntug1, zg_ntug2, zg_ntug3, zg_ntug4, zg_ntug5, zg_ntug6, zg_ntug7, zg_ntug8, zg_ntug9, zg_ntug10, zg_ntug11, zg_ntug12, zg_ntug13, zg_ntug14, zg_ntug15, zg_ntug17, zg_ntug18, zg_ntug19, zg_ntug20, zg_ntug21, zg_ntug22, zg_ncon0, zg_ncon1, zg_ncon2, zg_ncon3, zg_ncon4, zg_ncon5, zg_ncon6, zg_nwin0, zg_nwin1, zg_nwin2, zg_nwin3, zg_nwin4, zg_nwin5, zg_ncode0, zg_ncode1, zg_ncode3, zg_nrule, zg_nstock, zg_nhold, zg_nknown, zg_nord, zg_nrep, zg_ncla, zg_ntou, zg_ncel, zu_nsun0, zu_nsun1, zu_nsun2, zu_nrock0, zu_nrock1, zu_nrock2, zu_nrock3, zu_nrock4, zu_nrock5, zu_nrock6, zu_nrock7, zu_nrock8, zu_nrock9, zu_nrock10, zu_nrock11, zu_nrock12, zu_nrock13, zu_nrock14, zu_ntug0, zu_ntug1, zu_ntug2, zu_ntug3, zu_ntug4, zu_ntug5, zu_ntug6, zu_ntug7, zu_ntug8, zu_ntug9, zu_ntug10, zu_ntug11, zu_ntug12, zu_ntug13, zu_ntug14, zu_ntug15, zu_ntug17, zu_ntug18, zu_ntug19, zu_ntug20, zu_ntug21, zu_ntug22, zu_ncon0, zu_ncon1, zu_ncon2, zu_ncon3, zu_ncon4, zu_ncon5, zu_ncon6, zu_nwin0, zu_nwin1, zu_nwin2, zu_nwin3, zu_nwin4, zu_nwin5, zu_ncode3, zu_nrule, zu_nstock, zu_nhold, zu_nknown, zu_nord, zu_nrep, zu_ncla, zu_ntou, zu_ncel]
    · simp +decide (disch := omega) only [e178_0, e178_19, e178_22, T154, h1, List.cons_append, List.nil_append, zpre, ite_self, Nat.reduceAdd, zs1, zs2, zs3, zI_eqb, and_self, not_true_eq_false, if_true, if_false, ite_true, ite_false, not_false_eq_true, zBP, zBZ, zisO, zisA, zlen, decide_true, decide_false, Bool.and_self, Bool.and_true, Bool.true_and, cond_true, cond_false, zBG, zBR, zBU, zBV, zinb_n, zix_n, zlA, zlB, zlM, zlN, zlX, zlI, nI_add, Nat.add_eq_zero_iff, false_and, and_false, and_true, true_and, true_or, or_true, false_or, or_false, zbool_i, zb0, zb1, zshp_0, zcs_eq, zcs_n, zcs_cs, zup_g, zup_n, zg_srock2, zg_stug2, zg_ssun, zg_ssun0, zg_srock, zg_srock0, zg_stug, zg_stug0, zg_sord, zg_sord0, zg_srep, zg_srep0, zg_scla, zg_scla0, zg_scon, zg_scon0, zg_swin, zg_swin0, zg_sleg, zg_sleg0, zg_spro, zg_sstp, zg_swrd, zu_srock2, zu_stug2, zu_ssun, zu_ssun0, zu_srock, zu_srock0, zu_stug, zu_stug0, zu_sord, zu_sord0, zu_srep, zu_srep0, zu_scla, zu_scla0, zu_scon, zu_scon0, zu_swin, zu_swin0, zu_sleg, zu_sleg0, zu_spro, zu_sstp, zu_swrd]
    · exact zWW_f (Ca := C) (Cb := C) ⟨w, hG, hrest⟩ (fun g hg => by rw [zcs_n _ _ (by omega), zcs_n _ _ (by omega)]) (fun g k1 k2 => by rw [zcs_n _ _ (by omega), zcs_n _ _ (by omega)])
    · simp (disch := omega) only [zcs_eq, zcs_n, zup_n, zup_g]
      refine ⟨hIm, hKe, hK01, ⟨⟨0, by omega, rfl⟩, rfl, fun k hk => absurd hk (by rw [show zix 0 = 0 by decide]; exact Nat.not_lt_zero k)⟩, hWt, hH0, hH1⟩
    · rw [zcs_n _ _ (by decide), zcs_n _ _ (by decide)]
  obtain ⟨p, hp0, rfl⟩ := nI_of (x := x) (Int32.not_lt.mpr h1.1)
  have hp : p < 4 := by have : p ≤ 3 := Nat.le_of_not_lt (fun q => nI_ge (a := 3) (b := p) q hp0 h1.2); omega
  obtain ⟨nt, hnt4, hnt⟩ := hG.2.2.2.2.2.2.2.1
  have hnt0 : C 0 0 6 = nI nt := (hG.1 6 (by decide)).trans hnt
  obtain ⟨⟨n, hn, h44⟩, htt, hta⟩ := id hTp
  have h24 : C 201 0 4 = nI n := htt.trans h44
  rw [h44, zix_n (by omega)] at hta
  obtain ⟨T, hTd⟩ : ∃ T : Nat → Nat, T = fun k => zix (C 404 0 k) := ⟨_, rfl⟩
  have hT2 : ∀ k, k < n → C 404 0 k = nI (T k) ∧ T k < 256 := fun k hk => by
    obtain ⟨_, b, hb, e⟩ := hta k hk
    have : T k = b := by rw [hTd]; show zix (C 404 0 k) = b; rw [e, zix_n (by omega)]
    rw [this]
    exact ⟨e, hb⟩
  have hT1 : ∀ k, k < n → C 384 0 k = nI (T k) ∧ T k < 256 := fun k hk => by rw [(hta k hk).1]; exact hT2 k hk
  rcases PARSE L p r2 r3 s4 184 (85 + 2 * p) r2 r3 s4 hp T n hn with ⟨G, c, hv, hl, hK, hU⟩ | ⟨f, hK, hU⟩
  · obtain ⟨A, A0, a1, a2, a3, a4, a5, a6, a7, a8⟩ := PRC d L p0 p2 r2 r3 s4 p n nt hp C h24 hnt0 hnt4 hT1 (v := nI c) (Q := fun _ C1 => C1 0 0 (14 + p) = nI (G.length + zwc G) ∧ zgr (C1 (10 + p)) 0 G) hK
    have x40 : A 40 = C 40 := a2 40 (by decide) (by decide) (by omega) (by decide) (by decide)
    have x401 : A 401 = C 401 := a2 401 (by decide) (by decide) (by omega) (by decide) (by decide)
    have x404 : A 404 = C 404 := a2 404 (by decide) (by decide) (by omega) (by decide) (by decide)
    obtain ⟨M, M0, b1, b2, b3, b4, b5, b6, b7, b8, b9, b10, b11⟩ := PRM d L 184 (85 + 2 * p) r2 r3 s4 p n nt hp A (by rw [x401]; exact h44) (by rw [x40]; exact hnt) hnt4 (by rw [x404]; exact hT2) (Q := fun _ C1 => C1 401 0 10 = 0 ∧ C1 401 0 13 = nI G.length ∧ C1 401 0 14 = nI (zwc G) ∧ C1 401 0 15 = nI c ∧ zgs (C1 405 0) (C1 406 0) 0 0 G) (fun d C k1 k2 => by
      obtain ⟨C1, u1, u2, u3, u4, u5, u6, u7⟩ := hU d C k1 k2
      exact ⟨C1, u1, u6, u2, u3, u4, u5, u7⟩)
    obtain ⟨D, d1, d2, d3, d4, d5, d6⟩ := PRG (d + 120) L 184 (85 + 2 * p) r2 r3 s4 p nt G.length (zwc G) c hp M b7 b8 b9 b10 hl
    have hgD : ∀ g, g ≠ 40 → g ≠ 50 + p → g ≠ 54 + p → g ≠ 43 → g ≠ 401 → ¬ (405 ≤ g ∧ g ≤ 409) → D g = A g := fun g k1 k2 k3 k4 k5 k6 => by rw [d2 g k1 k2 k3, b2 g k4 k5 k6]
    refine ⟨nI c, A, (184, 85 + 2 * p, r2, r3, s4), a1, D, b1.trans d1, ?_, ?_⟩
    · refine zRep_pr (wn := fun k => zwc (G.take k)) hp hnt hnt4 hR (fun g k0 k1 k2 k3 k4 k5 k6 k7 k8 k9 k10 => by rw [hgD g k3 k5 k6 k4 k9 k10, a2 g k0 k1 k2 k7 k8]) (fun f hf => by rw [hgD 0 (by decide) (by omega) (by omega) (by decide) (by decide) (by decide)]; exact a3 f hf) (fun f hf => by rw [d3 f hf, b2 40 (by decide) (by decide) (by decide), x40]) (fun k f hk => by rw [hgD 3 (by decide) (by omega) (by omega) (by decide) (by decide) (by decide)]; exact a4 k f hk) (fun k f hk => ?_) ?_ ?_ ?_ ?_ ?_ ?_ ?_
      · rw [d2 43 (by decide) (by omega) (by omega), b3 k f hk, a2 43 (by decide) (by decide) (by omega) (by decide) (by decide)]
      · rw [hgD 201 (by decide) (by omega) (by omega) (by decide) (by decide) (by decide)]; exact a5 2 (by decide)
      · rw [hgD 201 (by decide) (by omega) (by omega) (by decide) (by decide) (by decide)]; exact a6
      · rw [hgD 201 (by decide) (by omega) (by omega) (by decide) (by decide) (by decide)]; exact a5 6 (by decide)
      · rw [d2 401 (by decide) (by omega) (by omega), b4, x401]
      · rw [d2 401 (by decide) (by omega) (by omega), b6]
      · rw [d2 401 (by decide) (by omega) (by omega), b5, x401]
      · rw [d4, hgD 0 (by decide) (by omega) (by omega) (by decide) (by decide) (by decide), hgD (10 + p) (by omega) (by omega) (by omega) (by omega) (by omega) (by omega), a7]
        exact zLay_pr (zag_tk G) hv hl a8 b11 d5 d6
    · rw [hgD 100 (by decide) (by omega) (by omega) (by decide) (by decide) (by decide), a2 100 (by decide) (by decide) (by omega) (by decide) (by decide)]
  · obtain ⟨A, A0, a1, a2, a3, a4, a5, a6, a7⟩ := PRC d L p0 p2 r2 r3 s4 p n nt hp C h24 hnt0 hnt4 hT1 (v := -100 - nI f) (Q := fun _ C1 => C1 0 0 (14 + p) = 0) hK
    have x40 : A 40 = C 40 := a2 40 (by decide) (by decide) (by omega) (by decide) (by decide)
    have x401 : A 401 = C 401 := a2 401 (by decide) (by decide) (by omega) (by decide) (by decide)
    have x404 : A 404 = C 404 := a2 404 (by decide) (by decide) (by omega) (by decide) (by decide)
    obtain ⟨M, M0, b1, b2, b3, b4, b5, b6, b7, b8⟩ := PRM d L 184 (85 + 2 * p) r2 r3 s4 p n nt hp A (by rw [x401]; exact h44) (by rw [x40]; exact hnt) hnt4 (by rw [x404]; exact hT2) (Q := fun _ C1 => C1 401 0 10 = 1 ∧ C1 401 0 9 = nI f) (fun d C k1 k2 => by
      obtain ⟨C1, u1, u2, u3, u4⟩ := hU d C k1 k2
      exact ⟨C1, u1, u4, u2, u3⟩)
    obtain ⟨D, d1, d2, d3, d4⟩ := PRB (d + 120) L 184 (85 + 2 * p) r2 r3 s4 p nt f hp M b7 b8
    have hgD : ∀ g, g ≠ 40 → g ≠ 43 → g ≠ 401 → ¬ (405 ≤ g ∧ g ≤ 409) → D g = A g := fun g k1 k4 k5 k6 => by rw [d2 g k1, b2 g k4 k5 k6]
    refine ⟨-100 - nI f, A, (184, 85 + 2 * p, r2, r3, s4), a1, D, b1.trans d1, ?_, ?_⟩
    · refine zRep_pr (wn := fun _ => 0) hp hnt hnt4 hR (fun g k0 k1 k2 k3 k4 k5 k6 k7 k8 k9 k10 => by rw [hgD g k3 k4 k9 k10, a2 g k0 k1 k2 k7 k8]) (fun f hf => by rw [hgD 0 (by decide) (by decide) (by decide) (by decide)]; exact a3 f hf) (fun f hf => by rw [d3 f hf, b2 40 (by decide) (by decide) (by decide), x40]) (fun k f hk => by rw [hgD 3 (by decide) (by decide) (by decide) (by decide)]; exact a4 k f hk) (fun k f hk => ?_) ?_ ?_ ?_ ?_ ?_ ?_ ?_
      · rw [d2 43 (by decide), b3 k f hk, a2 43 (by decide) (by decide) (by omega) (by decide) (by decide)]
      · rw [hgD 201 (by decide) (by decide) (by decide) (by decide)]; exact a5 2 (by decide)
      · rw [hgD 201 (by decide) (by decide) (by decide) (by decide)]; exact a6
      · rw [hgD 201 (by decide) (by decide) (by decide) (by decide)]; exact a5 6 (by decide)
      · rw [d2 401 (by decide), b4, x401]
      · rw [d2 401 (by decide), b6]
      · rw [d2 401 (by decide), b5, x401]
      · rw [d4, hgD 0 (by decide) (by decide) (by decide) (by decide), a7]
        exact zLay_0 _ _ _
    · rw [hgD 100 (by decide) (by decide) (by decide) (by decide), a2 100 (by decide) (by decide) (by omega) (by decide) (by decide)]

