/-! THE RUN: the end of a day (2), printed by wip/gen/pub34.py -/
theorem e204_84v (d : Nat) (Z : List (Nat × Nat)) (I : Nat → Nat → Int32) (P : Nat → Nat → Nat) (r0 : Nat) (x1 : Int32) (v2 : Value) : zR d 204 84 [.ref r0, .int x1, v2] [] (Z, I, P) = bif ((zisO Z r0 12 && decide (¬ P r0 0 = 0)) && ((zisA Z (P r0 0) 1 && zinb 10 (zlen Z (P r0 0))) && (true))) then (if (I (P r0 0) (zix 10)) ≤ x1 then zR d 204 145 [.ref r0, .int x1, v2] [] (Z, I, P) else zR d 204 95 [.ref r0, .int x1, v2] [] (Z, I, P)) else none := zE_br (g := ((zisO Z r0 12 && decide (¬ P r0 0 = 0)) && ((zisA Z (P r0 0) 1 && zinb 10 (zlen Z (P r0 0))) && (true)))) (p := (I (P r0 0) (zix 10)) ≤ x1) (t := 145) (f := 95) zK204 rfl zi204 48 6 rfl
noncomputable def zvd (b : Nat → Int32) (td : Int32) : Int32 := @ite _ ((b 6 = -1 ∧ b 7 = 0) ∧ b 3 < td) (Classical.propDecidable _) 1 (b 7)
theorem Q204_84 (d L p0 p2 r2 r3 s4 nc : Nat) (td : Int32) (hc8 : nc ≤ 8) : ∀ (m k : Nat) (C : zCt) (v2 : Value), C 40 0 10 = nI nc → C 40 0 0 = td → k + m = nc → ∃ F, zR (d + 1) 204 84 [.ref 201, .int (nI k), v2] [] (zZ L, zI C, zPd p0 p2 r2 r3 s4) = some (none, (zZ L, zI (zcs C 47 F), zPd p0 p2 r2 r3 s4)) ∧ (∀ i f, f ≠ 7 → F i f = C 47 i f) ∧ ∀ i, F i 7 = if k ≤ i ∧ i < nc then zvd (C 47 i) td else C 47 i 7 := by
  intro m
  induction m with
  | zero =>
    intro k C v2 hC ht hk
    have hk : k = nc := by omega
    subst hk
    have h1 : nI k ≤ nI k := Int32.le_refl _
    refine ⟨C 47, ?_, fun _ _ _ => rfl, fun i => by rw [if_neg (by omega)]⟩
    rw [zcs_self, e204_84v]
    simp +decide (disch := omega) only [e204_145, hC, h1, zpre, ite_self, Nat.reduceAdd, zs1, zs2, zs3, zI_eqb, and_self, not_true_eq_false, if_true, if_false, ite_true, ite_false, not_false_eq_true, zBP, zBZ, zisO, zisA, zlen, decide_true, decide_false, Bool.and_self, Bool.and_true, Bool.true_and, cond_true, cond_false, zBG, zBR, zBU, zBV, zinb_n, zix_n, zlA, zlB, zlM, zlN, zlX, zlI, nI_add, Nat.add_eq_zero_iff, false_and, and_false, and_true, true_and, true_or, or_true, false_or, or_false, zbool_i, zb0, zb1, zshp_0, zcs_eq, zcs_n, zcs_cs, zup_g, zup_n, zg_srock2, zg_stug2, zg_ssun, zg_ssun0, zg_srock, zg_srock0, zg_stug, zg_stug0, zg_sord, zg_sord0, zg_srep, zg_srep0, zg_scla, zg_scla0, zg_scon, zg_scon0, zg_swin, zg_swin0, zg_sleg, zg_sleg0, zg_spro, zg_sstp, zg_swrd, zu_srock2, zu_stug2, zu_ssun, zu_ssun0, zu_srock, zu_srock0, zu_stug, zu_stug0, zu_sord, zu_sord0, zu_srep, zu_srep0, zu_scla, zu_scla0, zu_scon, zu_scon0, zu_swin, zu_swin0, zu_sleg, zu_sleg0, zu_spro, zu_sstp, zu_swrd]
  | succ m ih =>
    intro k C v2 hC ht hk
    have hge : ¬ nI nc ≤ nI k := nI_ge (by omega) (by omega)
    have hk8 : k < 8 := by omega
    have hno : ¬ ((C 47 k 6 = -1 ∧ C 47 k 7 = 0) ∧ C 47 k 3 < td) → (∃ F, zR (d + 1) 204 84 [.ref 201, .int (nI (k + 1)), .int (nI (902 + 8 * k))] [] (zZ L, zI C, zPd p0 p2 r2 r3 s4) = some (none, (zZ L, zI (zcs C 47 F), zPd p0 p2 r2 r3 s4)) ∧ (∀ i f, f ≠ 7 → F i f = C 47 i f) ∧ ∀ i, F i 7 = if k ≤ i ∧ i < nc then zvd (C 47 i) td else C 47 i 7) := by
      intro hn
      obtain ⟨F, f1, f2, f3⟩ := ih (k + 1) C (.int (nI (902 + 8 * k))) hC ht (by omega)
      refine ⟨F, f1, f2, fun i => ?_⟩
      rw [f3 i]
      by_cases e : i = k
      · subst e
        rw [if_neg (by omega), if_pos (by omega)]
        unfold zvd
        rw [if_neg hn]
      · by_cases e2 : k ≤ i ∧ i < nc
        · rw [if_pos e2, if_pos (by omega)]
        · rw [if_neg e2, if_neg (by omega)]
    rw [e204_84v]
    by_cases g1 : C 47 k 6 = -1
    case neg =>
      obtain ⟨F, f1, f2⟩ := hno (fun q => g1 q.1.1)
      refine ⟨F, ?_, f2⟩
      rw [← f1]
      simp +decide (disch := omega) only [e204_95, e204_109, e204_112, e204_129, e204_139, e221_0, e221_20, e221_39, e221_43, e221_44, hC, hge, g1, zpre, ite_self, Nat.reduceAdd, zs1, zs2, zs3, zI_eqb, and_self, not_true_eq_false, if_true, if_false, ite_true, ite_false, not_false_eq_true, zBP, zBZ, zisO, zisA, zlen, decide_true, decide_false, Bool.and_self, Bool.and_true, Bool.true_and, cond_true, cond_false, zBG, zBR, zBU, zBV, zinb_n, zix_n, zlA, zlB, zlM, zlN, zlX, zlI, nI_add, Nat.add_eq_zero_iff, false_and, and_false, and_true, true_and, true_or, or_true, false_or, or_false, zbool_i, zb0, zb1, zshp_0, zcs_eq, zcs_n, zcs_cs, zup_g, zup_n, zg_srock2, zg_stug2, zg_ssun, zg_ssun0, zg_srock, zg_srock0, zg_stug, zg_stug0, zg_sord, zg_sord0, zg_srep, zg_srep0, zg_scla, zg_scla0, zg_scon, zg_scon0, zg_swin, zg_swin0, zg_sleg, zg_sleg0, zg_spro, zg_sstp, zg_swrd, zu_srock2, zu_stug2, zu_ssun, zu_ssun0, zu_srock, zu_srock0, zu_stug, zu_stug0, zu_sord, zu_sord0, zu_srep, zu_srep0, zu_scla, zu_scla0, zu_scon, zu_scon0, zu_swin, zu_swin0, zu_sleg, zu_sleg0, zu_spro, zu_sstp, zu_swrd]
    have g1' := eq_true g1
    by_cases g2 : C 47 k 7 = 0
    case neg =>
      obtain ⟨F, f1, f2⟩ := hno (fun q => g2 q.1.2)
      refine ⟨F, ?_, f2⟩
      rw [← f1]
      simp +decide (disch := omega) only [e204_95, e204_109, e204_112, e204_129, e204_139, e221_0, e221_20, e221_39, e221_43, e221_44, hC, hge, g1', g2, zpre, ite_self, Nat.reduceAdd, zs1, zs2, zs3, zI_eqb, and_self, not_true_eq_false, if_true, if_false, ite_true, ite_false, not_false_eq_true, zBP, zBZ, zisO, zisA, zlen, decide_true, decide_false, Bool.and_self, Bool.and_true, Bool.true_and, cond_true, cond_false, zBG, zBR, zBU, zBV, zinb_n, zix_n, zlA, zlB, zlM, zlN, zlX, zlI, nI_add, Nat.add_eq_zero_iff, false_and, and_false, and_true, true_and, true_or, or_true, false_or, or_false, zbool_i, zb0, zb1, zshp_0, zcs_eq, zcs_n, zcs_cs, zup_g, zup_n, zg_srock2, zg_stug2, zg_ssun, zg_ssun0, zg_srock, zg_srock0, zg_stug, zg_stug0, zg_sord, zg_sord0, zg_srep, zg_srep0, zg_scla, zg_scla0, zg_scon, zg_scon0, zg_swin, zg_swin0, zg_sleg, zg_sleg0, zg_spro, zg_sstp, zg_swrd, zu_srock2, zu_stug2, zu_ssun, zu_ssun0, zu_srock, zu_srock0, zu_stug, zu_stug0, zu_sord, zu_sord0, zu_srep, zu_srep0, zu_scla, zu_scla0, zu_scon, zu_scon0, zu_swin, zu_swin0, zu_sleg, zu_sleg0, zu_spro, zu_sstp, zu_swrd]
    by_cases g3 : C 47 k 3 < td
    case neg =>
      have g3' := Int32.not_lt.mp g3
      obtain ⟨F, f1, f2⟩ := hno (fun q => g3 q.2)
      refine ⟨F, ?_, f2⟩
      rw [← f1]
      simp +decide (disch := omega) only [e204_95, e204_109, e204_112, e204_129, e204_139, e221_0, e221_20, e221_39, e221_43, e221_44, hC, hge, ht, g1', g2, g3, g3', zpre, ite_self, Nat.reduceAdd, zs1, zs2, zs3, zI_eqb, and_self, not_true_eq_false, if_true, if_false, ite_true, ite_false, not_false_eq_true, zBP, zBZ, zisO, zisA, zlen, decide_true, decide_false, Bool.and_self, Bool.and_true, Bool.true_and, cond_true, cond_false, zBG, zBR, zBU, zBV, zinb_n, zix_n, zlA, zlB, zlM, zlN, zlX, zlI, nI_add, Nat.add_eq_zero_iff, false_and, and_false, and_true, true_and, true_or, or_true, false_or, or_false, zbool_i, zb0, zb1, zshp_0, zcs_eq, zcs_n, zcs_cs, zup_g, zup_n, zg_srock2, zg_stug2, zg_ssun, zg_ssun0, zg_srock, zg_srock0, zg_stug, zg_stug0, zg_sord, zg_sord0, zg_srep, zg_srep0, zg_scla, zg_scla0, zg_scon, zg_scon0, zg_swin, zg_swin0, zg_sleg, zg_sleg0, zg_spro, zg_sstp, zg_swrd, zu_srock2, zu_stug2, zu_ssun, zu_ssun0, zu_srock, zu_srock0, zu_stug, zu_stug0, zu_sord, zu_sord0, zu_srep, zu_srep0, zu_scla, zu_scla0, zu_scon, zu_scon0, zu_swin, zu_swin0, zu_sleg, zu_sleg0, zu_spro, zu_sstp, zu_swrd]
    have g3' := Int32.not_le.mpr g3
    obtain ⟨F, f1, f2, f3⟩ := ih (k + 1) (zcs C 47 (zup (C 47) k 7 1)) (.int (nI (902 + 8 * k))) (by rw [zcs_n _ _ (by decide)]; exact hC) (by rw [zcs_n _ _ (by decide)]; exact ht) (by omega)
    rw [zcs_cs] at f1
    refine ⟨F, ?_, fun i f hf => ?_, fun i => ?_⟩
    · rw [← f1]
      simp +decide (disch := omega) only [e204_95, e204_109, e204_112, e204_129, e204_139, e221_0, e221_20, e221_39, e221_43, e221_44, hC, hge, ht, g1', g2, g3, g3', zpre, ite_self, Nat.reduceAdd, zs1, zs2, zs3, zI_eqb, and_self, not_true_eq_false, if_true, if_false, ite_true, ite_false, not_false_eq_true, zBP, zBZ, zisO, zisA, zlen, decide_true, decide_false, Bool.and_self, Bool.and_true, Bool.true_and, cond_true, cond_false, zBG, zBR, zBU, zBV, zinb_n, zix_n, zlA, zlB, zlM, zlN, zlX, zlI, nI_add, Nat.add_eq_zero_iff, false_and, and_false, and_true, true_and, true_or, or_true, false_or, or_false, zbool_i, zb0, zb1, zshp_0, zcs_eq, zcs_n, zcs_cs, zup_g, zup_n, zg_srock2, zg_stug2, zg_ssun, zg_ssun0, zg_srock, zg_srock0, zg_stug, zg_stug0, zg_sord, zg_sord0, zg_srep, zg_srep0, zg_scla, zg_scla0, zg_scon, zg_scon0, zg_swin, zg_swin0, zg_sleg, zg_sleg0, zg_spro, zg_sstp, zg_swrd, zu_srock2, zu_stug2, zu_ssun, zu_ssun0, zu_srock, zu_srock0, zu_stug, zu_stug0, zu_sord, zu_sord0, zu_srep, zu_srep0, zu_scla, zu_scla0, zu_scon, zu_scon0, zu_swin, zu_swin0, zu_sleg, zu_sleg0, zu_spro, zu_sstp, zu_swrd]
    · rw [f2 i f hf, zcs_eq, zup_n _ _ (by omega)]
    · rw [f3 i, zcs_eq]
      by_cases e : i = k
      · subst e
        rw [if_neg (by omega), if_pos (by omega), zup_g]
        unfold zvd
        rw [if_pos ⟨⟨g1, g2⟩, g3⟩]
      · rw [zup_row e]
        by_cases e2 : k ≤ i ∧ i < nc
        · rw [if_pos e2, if_pos (by omega)]
        · rw [if_neg e2, if_neg (by omega)]
theorem P6 (d1 d2 L p0 p2 cr2 cr3 r2 r3 s4 : Nat) (Ca Cb : zCt) (h : zWW Ca Cb) (x : Int32) (v2 : Value) (td : Nat) (htd : Cb 40 0 0 = nI td) (htd2 : td + 1 ≤ 3000) : ∃ Ca' Cb', zR (d1 + 4) 99 0 [.ref 2, zmk] [] (zZ L, zI Ca, zPd p0 p2 cr2 cr3 s4) = some (none, (zZ L, zI Ca', zPd p0 p2 cr2 cr3 s4)) ∧ zR (d2 + 4) 204 48 [.ref 201, .int x, v2] [] (zZ L, zI Cb, zPd p0 p2 r2 r3 s4) = some (none, (zZ L, zI Cb', zPd p0 p2 r2 r3 s4)) ∧ zWW Ca' Cb' ∧ zFa Ca Ca' ∧ zFb Cb Cb' ∧ Cb' 40 0 0 = nI (td + 1) := by
  have h' := h
  obtain ⟨w', hG', _⟩ := h'
  obtain ⟨nt, hnt8, hnt⟩ := hG'.2.2.2.2.2.2.2.1
  obtain ⟨A1, B1, q1, q2, q3, q4, q5, q6⟩ := Q99 d1 d2 L p0 p2 cr2 cr3 r2 r3 s4 nt hnt8 nt 0 Ca Cb v2 h hnt (by omega)
  obtain ⟨w, hG, hS, hRR, hT, hO, hE, hC, hK, hW, hL, hP⟩ := id q3
  have hGe := zRG_e hG
  have hb0 : B1 40 0 0 = nI td := by rw [q6]; exact htd
  have ha0 : A1 0 0 0 = nI td := hGe.1.trans hb0
  obtain ⟨nc, hc8, hc⟩ := hG.2.2.2.2.2.2.2.2.2.2.2.1
  obtain ⟨F, f1, f2, f3⟩ := Q204_84 (d2 + 3) L p0 p2 r2 r3 s4 nc (nI (td + 1)) hc8 nc 0 (zcs B1 40 (zup (B1 40) 0 0 (nI (td + 1)))) v2 (by rw [zcs_eq, zup_n _ _ (by omega)]; exact hc) (by rw [zcs_eq, zup_g]) (by omega)
  rw [zn0] at q1 q2 f1
  rw [zcs_n _ _ (by decide)] at f2 f3
  refine ⟨zcs A1 0 (zup (A1 0) 0 0 (nI (td + 1))), zcs (zcs B1 40 (zup (B1 40) 0 0 (nI (td + 1)))) 47 F, ?_, ?_, ?_, zFa_s q4 (by omega), zFb_s (zFb_s q5 (by omega)) (by omega), ?_⟩
  · rw [e99_0, q1, e99_33]
    simp +decide (disch := omega) only [ha0, zpre, ite_self, zs1, zs2, zs3, zI_eqb, and_self, not_true_eq_false, if_true, if_false, ite_true, ite_false, not_false_eq_true, zBP, zBZ, zisO, zisA, zlen, decide_true, decide_false, Bool.and_self, Bool.and_true, Bool.true_and, cond_true, cond_false, zBG, zBR, zBU, zBV, zinb_n, zix_n, zlA, zlB, zlM, zlN, zlX, zlI, nI_add, Nat.add_eq_zero_iff, false_and, and_false, and_true, true_and, true_or, or_true, false_or, or_false, zbool_i, zb0, zb1, zshp_0, zcs_eq, zcs_n, zcs_cs, zup_g, zup_n, zp2_sun, zp2_rock, zp2_tug, zp2_contract, zp2_window, zp2_code, zp2_rbody, zp2_rstock, zp2_tfree, zp2_thold, zp2_tknown, zp2_ccells, zsh2_sun, zsh2_rock, zsh2_body, zsh2_stock, zsh2_tug, zsh2_free, zsh2_hold, zsh2_known, zsh2_contract, zsh2_window, zsh2_code, zsh2_cells, zg_nsun0, zg_nsun1, zg_nsun2, zg_nrock0, zg_nrock1, zg_nrock2, zg_nrock3, zg_nrock4, zg_nrock5, zg_nrock6, zg_nrock7, zg_nrock8, zg_nrock9, zg_nrock10, zg_nrock11, zg_nrock12, zg_nrock13, zg_nrock14, zg_ntug0, zg_ntug1, zg_ntug2, zg_ntug3, zg_ntug4, zg_ntug5, zg_ntug6, zg_ntug7, zg_ntug8, zg_ntug9, zg_ntug10, zg_ntug11, zg_ntug12, zg_ntug13, zg_ntug14, zg_ntug15, zg_ntug17, zg_ntug18, zg_ntug19, zg_ntug20, zg_ntug21, zg_ntug22, zg_ncon0, zg_ncon1, zg_ncon2, zg_ncon3, zg_ncon4, zg_ncon5, zg_ncon6, zg_nwin0, zg_nwin1, zg_nwin2, zg_nwin3, zg_nwin4, zg_nwin5, zg_ncode0, zg_ncode1, zg_ncode3, zg_nrule, zg_nstock, zg_nhold, zg_nknown, zg_nord, zg_nrep, zg_ncla, zg_ntou, zg_ncel, zu_nsun0, zu_nsun1, zu_nsun2, zu_nrock0, zu_nrock1, zu_nrock2, zu_nrock3, zu_nrock4, zu_nrock5, zu_nrock6, zu_nrock7, zu_nrock8, zu_nrock9, zu_nrock10, zu_nrock11, zu_nrock12, zu_nrock13, zu_nrock14, zu_ntug0, zu_ntug1, zu_ntug2, zu_ntug3, zu_ntug4, zu_ntug5, zu_ntug6, zu_ntug7, zu_ntug8, zu_ntug9, zu_ntug10, zu_ntug11, zu_ntug12, zu_ntug13, zu_ntug14, zu_ntug15, zu_ntug17, zu_ntug18, zu_ntug19, zu_ntug20, zu_ntug21, zu_ntug22, zu_ncon0, zu_ncon1, zu_ncon2, zu_ncon3, zu_ncon4, zu_ncon5, zu_ncon6, zu_nwin0, zu_nwin1, zu_nwin2, zu_nwin3, zu_nwin4, zu_nwin5, zu_ncode3, zu_nrule, zu_nstock, zu_nhold, zu_nknown, zu_nord, zu_nrep, zu_ncla, zu_ntou, zu_ncel]
  · rw [e204_48, q2, e204_72]
    simp +decide (disch := omega) only [hb0, f1, zpre, ite_self, Nat.reduceAdd, zs1, zs2, zs3, zI_eqb, and_self, not_true_eq_false, if_true, if_false, ite_true, ite_false, not_false_eq_true, zBP, zBZ, zisO, zisA, zlen, decide_true, decide_false, Bool.and_self, Bool.and_true, Bool.true_and, cond_true, cond_false, zBG, zBR, zBU, zBV, zinb_n, zix_n, zlA, zlB, zlM, zlN, zlX, zlI, nI_add, Nat.add_eq_zero_iff, false_and, and_false, and_true, true_and, true_or, or_true, false_or, or_false, zbool_i, zb0, zb1, zshp_0, zcs_eq, zcs_n, zcs_cs, zup_g, zup_n, zg_srock2, zg_stug2, zg_ssun, zg_ssun0, zg_srock, zg_srock0, zg_stug, zg_stug0, zg_sord, zg_sord0, zg_srep, zg_srep0, zg_scla, zg_scla0, zg_scon, zg_scon0, zg_swin, zg_swin0, zg_sleg, zg_sleg0, zg_spro, zg_sstp, zg_swrd, zu_srock2, zu_stug2, zu_ssun, zu_ssun0, zu_srock, zu_srock0, zu_stug, zu_stug0, zu_sord, zu_sord0, zu_srep, zu_srep0, zu_scla, zu_scla0, zu_scon, zu_scon0, zu_swin, zu_swin0, zu_sleg, zu_sleg0, zu_spro, zu_sstp, zu_swrd]
  · unfold zWW
    simp (disch := omega) only [zcs_eq, zcs_n]
    unfold zWR
    simp (disch := omega) only [zup_g, zup_n]
    refine ⟨w, zRG_u0 hG ⟨td + 1, htd2, rfl⟩, hS, hRR, hT, hO, hE, hC, ?_, hW, hL, hP⟩
    intro i hi
    have hi' := hi
    rw [hc, zix_n (by omega)] at hi'
    obtain ⟨j1, j2, j3, j4, j5, j6, j7, j8, j9, j10⟩ := hK i hi
    have e7 := f3 i
    rw [if_pos ⟨Nat.zero_le _, hi'⟩] at e7
    unfold zRK1
    rw [f2 i 0 (by decide), f2 i 1 (by decide), f2 i 2 (by decide), f2 i 3 (by decide), f2 i 4 (by decide), f2 i 5 (by decide), f2 i 6 (by decide), e7]
    rw [hb0] at j10
    have hlt : nI td < nI (td + 1) := nI_lt (by omega) (by omega)
    have hv : zvd (B1 47 i) (nI (td + 1)) = 0 ∨ zvd (B1 47 i) (nI (td + 1)) = 1 := by
      unfold zvd
      split
      · exact Or.inr rfl
      · exact j9
    refine ⟨fun f hf => by rw [f2 i f (by omega)]; exact j1 f hf, j2, j3, j4, j5, j6, j7, j8, hv, fun hm => ?_⟩
    have h10 := j10 hm
    unfold zvd
    rcases j9 with e | e
    · by_cases g : B1 47 i 3 < nI (td + 1)
      · rw [if_pos ⟨⟨hm, e⟩, g⟩]; exact ⟨fun _ => g, fun _ => rfl⟩
      · rw [if_neg (fun q => g q.2), e]
        exact ⟨fun q => absurd q (by decide), fun q => absurd q g⟩
    · have g := h10.mp e
      rw [if_neg (fun q => by rw [e] at q; exact absurd q.1.2 (by decide)), e]
      exact ⟨fun _ => Int32.lt_trans g hlt, fun _ => rfl⟩
  · rw [zcs_n _ _ (by decide), zcs_eq, zup_g]

