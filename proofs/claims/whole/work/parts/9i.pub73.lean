/-! THE PROGRAM: S in the class (3), printed by wip/gen/pub73.py -/
theorem zCa_fl {p : Nat} {T : Nat → Nat} {n U t c : Nat} {C C1 C3 : zCt} {G : List zUn} {x1 x' : zLx} {fl : Nat} {v0 v1 : Int32} (hp : p < 4) (h0 : zCk p T n U C C1 [] x1) (h : zCa p T n U t c (zcs C1 390 (zup (C1 390) 0 fl v1)) C3 G x') (hfl : fl ≠ 1 ∧ fl ≠ 3 ∧ fl ≠ 4 ∧ fl ≠ 5 ∧ fl ≠ 9) (hv : C 390 0 fl = v0) : zCa p T n U t c C (zcs C3 390 (zup (C3 390) 0 fl v0)) G x' := by
  obtain ⟨a1, a2, a3, a4, a5, a6⟩ := h0
  obtain ⟨b1, b2, b3, b4, b5, b6, b7⟩ := h
  refine ⟨zPC_g b1 (by rw [zcs_n _ _ (by decide)]) (fun f hf => by rw [zcs_eq, zup_n _ _ (by omega)]), ⟨fun g c d e => ?_, fun f c => ?_⟩, fun f c d e k => ?_, ?_, ?_, fun i f hi => ?_, ?_⟩
  · rw [zcs_n _ _ d, b2.1 g c d e, zcs_n _ _ d, a2.1 g c d e]
  · rw [zcs_n _ _ (by decide), b2.2 f c, zcs_n _ _ (by decide), a2.2 f c]
  · by_cases ef : f = fl
    · rw [ef, zcs_eq, zup_g, hv]
    · rw [zcs_eq, zup_n _ _ (by omega), b3 f c d e k, zcs_eq, zup_n _ _ (by omega), a3 f c d e]
  · rw [zcs_eq, zup_n _ _ (by omega)]; exact b4
  · rw [zcs_n _ _ (by decide)]; exact b5
  · rw [zcs_n _ _ (by omega), b6 i f hi, zcs_n _ _ (by omega), a5 i f hi]
  · rw [zcs_n _ _ (by omega)]; exact b7
theorem B_0 (D L p r2 r3 s4 : Nat) (hp : p < 4) (T : Nat → Nat) (n : Nat) (x : zLx) (be N j : Nat) (hk : zTk T n x) (hD : 6 ≤ D) (hb : 4 ≤ be ∨ ¬ zisg T x 123) (hbe : be < 100) : zAf D L p r2 r3 s4 T n 32 [.ref 190] x be N j x := by
  intro e he C t h h6 h7 h8 h9 hU hUx
  obtain ⟨d, rfl⟩ : ∃ d, e = d + 6 := ⟨e - 6, by omega⟩
  refine ⟨C, ?_, h.2.2.1, zFC_r _ _⟩
  by_cases c4 : 4 ≤ be
  · have c1 : (4 : Int32) ≤ nI be := nI_le (a := 4) c4 (by omega)
    simp +decide (disch := omega) only [e32_0, e32_17, h6, c1, zpre, ite_self, zs1, zs2, zs3, zI_eqb, and_self, not_true_eq_false, if_true, if_false, ite_true, ite_false, not_false_eq_true, zBP, zBZ, zisO, zisA, zlen, decide_true, decide_false, Bool.and_self, Bool.and_true, Bool.true_and, cond_true, cond_false, zBG, zBR, zBU, zBV, zinb_n, zix_n, zlA, zlB, zlM, zlN, zlX, zlI, nI_add, Nat.add_eq_zero_iff, false_and, and_false, and_true, true_and, true_or, or_true, false_or, or_false, zbool_i, zb0, zb1, zshp_0, zcs_eq, zcs_n, zcs_cs, zup_g, zup_n, zp2_sun, zp2_rock, zp2_tug, zp2_contract, zp2_window, zp2_code, zp2_rbody, zp2_rstock, zp2_tfree, zp2_thold, zp2_tknown, zp2_ccells, zsh2_sun, zsh2_rock, zsh2_body, zsh2_stock, zsh2_tug, zsh2_free, zsh2_hold, zsh2_known, zsh2_contract, zsh2_window, zsh2_code, zsh2_cells, zg_nsun0, zg_nsun1, zg_nsun2, zg_nrock0, zg_nrock1, zg_nrock2, zg_nrock3, zg_nrock4, zg_nrock5, zg_nrock6, zg_nrock7, zg_nrock8, zg_nrock9, zg_nrock10, zg_nrock11, zg_nrock12, zg_nrock13, zg_nrock14, zg_ntug0, zg_ntug1, zg_ntug2, zg_ntug3, zg_ntug4, zg_ntug5, zg_ntug6, zg_ntug7, zg_ntug8, zg_ntug9, zg_ntug10, zg_ntug11, zg_ntug12, zg_ntug13, zg_ntug14, zg_ntug15, zg_ntug17, zg_ntug18, zg_ntug19, zg_ntug20, zg_ntug21, zg_ntug22, zg_ncon0, zg_ncon1, zg_ncon2, zg_ncon3, zg_ncon4, zg_ncon5, zg_ncon6, zg_nwin0, zg_nwin1, zg_nwin2, zg_nwin3, zg_nwin4, zg_nwin5, zg_ncode0, zg_ncode1, zg_ncode3, zg_nrule, zg_nstock, zg_nhold, zg_nknown, zg_nord, zg_nrep, zg_ncla, zg_ntou, zg_ncel, zu_nsun0, zu_nsun1, zu_nsun2, zu_nrock0, zu_nrock1, zu_nrock2, zu_nrock3, zu_nrock4, zu_nrock5, zu_nrock6, zu_nrock7, zu_nrock8, zu_nrock9, zu_nrock10, zu_nrock11, zu_nrock12, zu_nrock13, zu_nrock14, zu_ntug0, zu_ntug1, zu_ntug2, zu_ntug3, zu_ntug4, zu_ntug5, zu_ntug6, zu_ntug7, zu_ntug8, zu_ntug9, zu_ntug10, zu_ntug11, zu_ntug12, zu_ntug13, zu_ntug14, zu_ntug15, zu_ntug17, zu_ntug18, zu_ntug19, zu_ntug20, zu_ntug21, zu_ntug22, zu_ncon0, zu_ncon1, zu_ncon2, zu_ncon3, zu_ncon4, zu_ncon5, zu_ncon6, zu_nwin0, zu_nwin1, zu_nwin2, zu_nwin3, zu_nwin4, zu_nwin5, zu_ncode3, zu_nrule, zu_nstock, zu_nhold, zu_nknown, zu_nord, zu_nrep, zu_ncla, zu_ntou, zu_ncel]
  · have c1 : ¬ (4 : Int32) ≤ nI be := nI_ge (b := 4) (by omega) (by decide)
    have hb : ¬ zisg T x 123 := by rcases hb with w | w; exact absurd w c4; exact w
    have t3 : zR (d + 5) 29 0 [.ref 190, .int 123] [] (zZ L, zI C, zPd 184 (85 + 2 * p) r2 r3 s4) = _ := C29_n (d + 3) L p r2 r3 s4 C h hk (c := 123) (by decide) hb
    simp +decide (disch := omega) only [e32_0, e32_8, e32_14, e32_17, h6, c1, t3, zpre, ite_self, zs1, zs2, zs3, zI_eqb, and_self, not_true_eq_false, if_true, if_false, ite_true, ite_false, not_false_eq_true, zBP, zBZ, zisO, zisA, zlen, decide_true, decide_false, Bool.and_self, Bool.and_true, Bool.true_and, cond_true, cond_false, zBG, zBR, zBU, zBV, zinb_n, zix_n, zlA, zlB, zlM, zlN, zlX, zlI, nI_add, Nat.add_eq_zero_iff, false_and, and_false, and_true, true_and, true_or, or_true, false_or, or_false, zbool_i, zb0, zb1, zshp_0, zcs_eq, zcs_n, zcs_cs, zup_g, zup_n, zp2_sun, zp2_rock, zp2_tug, zp2_contract, zp2_window, zp2_code, zp2_rbody, zp2_rstock, zp2_tfree, zp2_thold, zp2_tknown, zp2_ccells, zsh2_sun, zsh2_rock, zsh2_body, zsh2_stock, zsh2_tug, zsh2_free, zsh2_hold, zsh2_known, zsh2_contract, zsh2_window, zsh2_code, zsh2_cells, zg_nsun0, zg_nsun1, zg_nsun2, zg_nrock0, zg_nrock1, zg_nrock2, zg_nrock3, zg_nrock4, zg_nrock5, zg_nrock6, zg_nrock7, zg_nrock8, zg_nrock9, zg_nrock10, zg_nrock11, zg_nrock12, zg_nrock13, zg_nrock14, zg_ntug0, zg_ntug1, zg_ntug2, zg_ntug3, zg_ntug4, zg_ntug5, zg_ntug6, zg_ntug7, zg_ntug8, zg_ntug9, zg_ntug10, zg_ntug11, zg_ntug12, zg_ntug13, zg_ntug14, zg_ntug15, zg_ntug17, zg_ntug18, zg_ntug19, zg_ntug20, zg_ntug21, zg_ntug22, zg_ncon0, zg_ncon1, zg_ncon2, zg_ncon3, zg_ncon4, zg_ncon5, zg_ncon6, zg_nwin0, zg_nwin1, zg_nwin2, zg_nwin3, zg_nwin4, zg_nwin5, zg_ncode0, zg_ncode1, zg_ncode3, zg_nrule, zg_nstock, zg_nhold, zg_nknown, zg_nord, zg_nrep, zg_ncla, zg_ntou, zg_ncel, zu_nsun0, zu_nsun1, zu_nsun2, zu_nrock0, zu_nrock1, zu_nrock2, zu_nrock3, zu_nrock4, zu_nrock5, zu_nrock6, zu_nrock7, zu_nrock8, zu_nrock9, zu_nrock10, zu_nrock11, zu_nrock12, zu_nrock13, zu_nrock14, zu_ntug0, zu_ntug1, zu_ntug2, zu_ntug3, zu_ntug4, zu_ntug5, zu_ntug6, zu_ntug7, zu_ntug8, zu_ntug9, zu_ntug10, zu_ntug11, zu_ntug12, zu_ntug13, zu_ntug14, zu_ntug15, zu_ntug17, zu_ntug18, zu_ntug19, zu_ntug20, zu_ntug21, zu_ntug22, zu_ncon0, zu_ncon1, zu_ncon2, zu_ncon3, zu_ncon4, zu_ncon5, zu_ncon6, zu_nwin0, zu_nwin1, zu_nwin2, zu_nwin3, zu_nwin4, zu_nwin5, zu_ncode3, zu_nrule, zu_nstock, zu_nhold, zu_nknown, zu_nord, zu_nrep, zu_ncla, zu_ntou, zu_ncel]

theorem B_t (D D' L p r2 r3 s4 : Nat) (hp : p < 4) (T : Nat → Nat) (n : Nat) (x : zLx) (be N j : Nat) (hk : zTk T n x) (hD : 6 ≤ D) (hD' : D' + 1 ≤ D) (hs : zisg T x 123) (h4b : be < 4) {G : List zUn} {c : Nat} {x' : zLx} (hsub : zAt D' L p r2 r3 s4 T n 17 [.ref 190, zmk] (zadv T n x) (be + 1) N j G c x') (h41 : zisg T x' 125) : zAt D L p r2 r3 s4 T n 32 [.ref 190] x be N j G c (zadv T n x') := by
  have hkind : x.2.2 = 3 := hs.1
  have ha := zadv_k T n x hk.2.1
  have hlt := hk.2.2.2.2.1 (by rw [hkind]; decide)
  obtain ⟨g1, g2, g3, hsub⟩ := hsub
  have ha' := zadv_k T n x' g3.2.1
  have hlt' := g3.2.2.2.2.1 (by rw [h41.1]; decide)
  refine ⟨by omega, by omega, ha'.1, ?_⟩
  intro e he C t h h6 h7 h8 h9 hU hUx
  obtain ⟨d, rfl⟩ : ∃ d, e = d + 6 := ⟨e - 6, by omega⟩
  have c1 : ¬ (4 : Int32) ≤ nI be := nI_ge (b := 4) h4b (by decide)
  obtain ⟨F, t3, f2, f3⟩ := C29_y (d + 2) L p r2 r3 s4 C h hk hs
  have t3 : zR (d + 5) 29 0 [.ref 190, .int 123] [] (zZ L, zI C, zPd 184 (85 + 2 * p) r2 r3 s4) = some (some (.int 1), (zZ L, zI (zcs C 390 F), zPd 184 (85 + 2 * p) r2 r3 s4)) := t3
  have e0 := zCk_go hp f2 f3 hU
  have r6 : F 0 6 = nI be := (f3 6 (by decide) (by decide) (by decide)).trans h6
  obtain ⟨C3, t4, e1⟩ := hsub (d + 5) (by omega) (zcs (zcs C 390 F) 390 (zup ((zcs C 390 F) 390) 0 6 (nI (be + 1)))) t (zPC_f f2 (by decide)) (by rw [zcs_eq, zup_g]) (by rw [zcs_eq, zup_n _ _ (by omega), zcs_eq]; exact (f3 7 (by decide) (by decide) (by decide)).trans h7) (by rw [zcs_eq, zup_n _ _ (by omega), zcs_eq]; exact (f3 8 (by decide) (by decide) (by decide)).trans h8) (by rw [zcs_eq, zup_n _ _ (by omega), zcs_eq]; exact (f3 9 (by decide) (by decide) (by decide)).trans h9) (by rw [zcs_n _ _ (by decide), zcs_n _ _ (by decide)]; exact hU) (by omega)
  rw [zcs_eq, zcs_cs] at t4
  obtain ⟨G', t5, g4, g5⟩ := C29_y (d + 2) L p r2 r3 s4 C3 e1.1 g3 h41
  have t5 : zR (d + 5) 29 0 [.ref 190, .int 125] [] (zZ L, zI C3, zPd 184 (85 + 2 * p) r2 r3 s4) = some (some (.int 1), (zZ L, zI (zcs C3 390 G'), zPd 184 (85 + 2 * p) r2 r3 s4)) := t5
  have e2 := zCa_e e1 (zCk_go hp g4 g5 e1.2.2.2.2.1)
  have e3 := zCa_fl hp e0 e2 (by decide) h6
  have r63 : G' 0 6 = nI (be + 1) := by rw [g5 6 (by decide) (by decide) (by decide), e1.2.2.1 6 (by decide) (by decide) (by decide) (by decide), zcs_eq, zup_g]
  refine ⟨_, ?_, e3⟩
  simp +decide (disch := omega) only [e32_0, e32_8, e32_14, e32_19, e32_33, h6, r6, c1, t3, t4, e32_36, e32_42, e32_47, r63, nI_pred, t5, zpre, ite_self, zs1, zs2, zs3, zI_eqb, and_self, not_true_eq_false, if_true, if_false, ite_true, ite_false, not_false_eq_true, zBP, zBZ, zisO, zisA, zlen, decide_true, decide_false, Bool.and_self, Bool.and_true, Bool.true_and, cond_true, cond_false, zBG, zBR, zBU, zBV, zinb_n, zix_n, zlA, zlB, zlM, zlN, zlX, zlI, nI_add, Nat.add_eq_zero_iff, false_and, and_false, and_true, true_and, true_or, or_true, false_or, or_false, zbool_i, zb0, zb1, zshp_0, zcs_eq, zcs_n, zcs_cs, zup_g, zup_n, zp2_sun, zp2_rock, zp2_tug, zp2_contract, zp2_window, zp2_code, zp2_rbody, zp2_rstock, zp2_tfree, zp2_thold, zp2_tknown, zp2_ccells, zsh2_sun, zsh2_rock, zsh2_body, zsh2_stock, zsh2_tug, zsh2_free, zsh2_hold, zsh2_known, zsh2_contract, zsh2_window, zsh2_code, zsh2_cells, zg_nsun0, zg_nsun1, zg_nsun2, zg_nrock0, zg_nrock1, zg_nrock2, zg_nrock3, zg_nrock4, zg_nrock5, zg_nrock6, zg_nrock7, zg_nrock8, zg_nrock9, zg_nrock10, zg_nrock11, zg_nrock12, zg_nrock13, zg_nrock14, zg_ntug0, zg_ntug1, zg_ntug2, zg_ntug3, zg_ntug4, zg_ntug5, zg_ntug6, zg_ntug7, zg_ntug8, zg_ntug9, zg_ntug10, zg_ntug11, zg_ntug12, zg_ntug13, zg_ntug14, zg_ntug15, zg_ntug17, zg_ntug18, zg_ntug19, zg_ntug20, zg_ntug21, zg_ntug22, zg_ncon0, zg_ncon1, zg_ncon2, zg_ncon3, zg_ncon4, zg_ncon5, zg_ncon6, zg_nwin0, zg_nwin1, zg_nwin2, zg_nwin3, zg_nwin4, zg_nwin5, zg_ncode0, zg_ncode1, zg_ncode3, zg_nrule, zg_nstock, zg_nhold, zg_nknown, zg_nord, zg_nrep, zg_ncla, zg_ntou, zg_ncel, zu_nsun0, zu_nsun1, zu_nsun2, zu_nrock0, zu_nrock1, zu_nrock2, zu_nrock3, zu_nrock4, zu_nrock5, zu_nrock6, zu_nrock7, zu_nrock8, zu_nrock9, zu_nrock10, zu_nrock11, zu_nrock12, zu_nrock13, zu_nrock14, zu_ntug0, zu_ntug1, zu_ntug2, zu_ntug3, zu_ntug4, zu_ntug5, zu_ntug6, zu_ntug7, zu_ntug8, zu_ntug9, zu_ntug10, zu_ntug11, zu_ntug12, zu_ntug13, zu_ntug14, zu_ntug15, zu_ntug17, zu_ntug18, zu_ntug19, zu_ntug20, zu_ntug21, zu_ntug22, zu_ncon0, zu_ncon1, zu_ncon2, zu_ncon3, zu_ncon4, zu_ncon5, zu_ncon6, zu_nwin0, zu_nwin1, zu_nwin2, zu_nwin3, zu_nwin4, zu_nwin5, zu_ncode3, zu_nrule, zu_nstock, zu_nhold, zu_nknown, zu_nord, zu_nrep, zu_ncla, zu_ntou, zu_ncel]
theorem B_n (D D' L p r2 r3 s4 : Nat) (hp : p < 4) (T : Nat → Nat) (n : Nat) (x : zLx) (be N j : Nat) (hk : zTk T n x) (hD : 6 ≤ D) (hD' : D' + 1 ≤ D) (hs : zisg T x 123) (h4b : be < 4) {G : List zUn} {c : Nat} {x' : zLx} (hsub : zAt D' L p r2 r3 s4 T n 17 [.ref 190, zmk] (zadv T n x) (be + 1) N j G c x') (h41 : ¬ zisg T x' 125) : zAf D L p r2 r3 s4 T n 32 [.ref 190] x be N j x' := by
  have hkind : x.2.2 = 3 := hs.1
  have ha := zadv_k T n x hk.2.1
  have hlt := hk.2.2.2.2.1 (by rw [hkind]; decide)
  obtain ⟨g1, g2, g3, hsub⟩ := hsub
  intro e he C t h h6 h7 h8 h9 hU hUx
  obtain ⟨d, rfl⟩ : ∃ d, e = d + 6 := ⟨e - 6, by omega⟩
  have c1 : ¬ (4 : Int32) ≤ nI be := nI_ge (b := 4) h4b (by decide)
  obtain ⟨F, t3, f2, f3⟩ := C29_y (d + 2) L p r2 r3 s4 C h hk hs
  have t3 : zR (d + 5) 29 0 [.ref 190, .int 123] [] (zZ L, zI C, zPd 184 (85 + 2 * p) r2 r3 s4) = some (some (.int 1), (zZ L, zI (zcs C 390 F), zPd 184 (85 + 2 * p) r2 r3 s4)) := t3
  have e0 := zCk_go hp f2 f3 hU
  have r6 : F 0 6 = nI be := (f3 6 (by decide) (by decide) (by decide)).trans h6
  obtain ⟨C3, t4, e1⟩ := hsub (d + 5) (by omega) (zcs (zcs C 390 F) 390 (zup ((zcs C 390 F) 390) 0 6 (nI (be + 1)))) t (zPC_f f2 (by decide)) (by rw [zcs_eq, zup_g]) (by rw [zcs_eq, zup_n _ _ (by omega), zcs_eq]; exact (f3 7 (by decide) (by decide) (by decide)).trans h7) (by rw [zcs_eq, zup_n _ _ (by omega), zcs_eq]; exact (f3 8 (by decide) (by decide) (by decide)).trans h8) (by rw [zcs_eq, zup_n _ _ (by omega), zcs_eq]; exact (f3 9 (by decide) (by decide) (by decide)).trans h9) (by rw [zcs_n _ _ (by decide), zcs_n _ _ (by decide)]; exact hU) (by omega)
  rw [zcs_eq, zcs_cs] at t4
  have t5 : zR (d + 5) 29 0 [.ref 190, .int 125] [] (zZ L, zI C3, zPd 184 (85 + 2 * p) r2 r3 s4) = _ := C29_n (d + 3) L p r2 r3 s4 C3 e1.1 g3 (c := 125) (by decide) h41
  refine ⟨C3, ?_, e1.1.2.2.1, zFC_t (zFC_t (zFC_390 C F) (zFC_390 _ _)) e1.2.1⟩
  simp +decide (disch := omega) only [e32_0, e32_8, e32_14, e32_19, e32_33, h6, r6, c1, t3, t4, e32_36, e32_42, e32_45, t5, zpre, ite_self, zs1, zs2, zs3, zI_eqb, and_self, not_true_eq_false, if_true, if_false, ite_true, ite_false, not_false_eq_true, zBP, zBZ, zisO, zisA, zlen, decide_true, decide_false, Bool.and_self, Bool.and_true, Bool.true_and, cond_true, cond_false, zBG, zBR, zBU, zBV, zinb_n, zix_n, zlA, zlB, zlM, zlN, zlX, zlI, nI_add, Nat.add_eq_zero_iff, false_and, and_false, and_true, true_and, true_or, or_true, false_or, or_false, zbool_i, zb0, zb1, zshp_0, zcs_eq, zcs_n, zcs_cs, zup_g, zup_n, zp2_sun, zp2_rock, zp2_tug, zp2_contract, zp2_window, zp2_code, zp2_rbody, zp2_rstock, zp2_tfree, zp2_thold, zp2_tknown, zp2_ccells, zsh2_sun, zsh2_rock, zsh2_body, zsh2_stock, zsh2_tug, zsh2_free, zsh2_hold, zsh2_known, zsh2_contract, zsh2_window, zsh2_code, zsh2_cells, zg_nsun0, zg_nsun1, zg_nsun2, zg_nrock0, zg_nrock1, zg_nrock2, zg_nrock3, zg_nrock4, zg_nrock5, zg_nrock6, zg_nrock7, zg_nrock8, zg_nrock9, zg_nrock10, zg_nrock11, zg_nrock12, zg_nrock13, zg_nrock14, zg_ntug0, zg_ntug1, zg_ntug2, zg_ntug3, zg_ntug4, zg_ntug5, zg_ntug6, zg_ntug7, zg_ntug8, zg_ntug9, zg_ntug10, zg_ntug11, zg_ntug12, zg_ntug13, zg_ntug14, zg_ntug15, zg_ntug17, zg_ntug18, zg_ntug19, zg_ntug20, zg_ntug21, zg_ntug22, zg_ncon0, zg_ncon1, zg_ncon2, zg_ncon3, zg_ncon4, zg_ncon5, zg_ncon6, zg_nwin0, zg_nwin1, zg_nwin2, zg_nwin3, zg_nwin4, zg_nwin5, zg_ncode0, zg_ncode1, zg_ncode3, zg_nrule, zg_nstock, zg_nhold, zg_nknown, zg_nord, zg_nrep, zg_ncla, zg_ntou, zg_ncel, zu_nsun0, zu_nsun1, zu_nsun2, zu_nrock0, zu_nrock1, zu_nrock2, zu_nrock3, zu_nrock4, zu_nrock5, zu_nrock6, zu_nrock7, zu_nrock8, zu_nrock9, zu_nrock10, zu_nrock11, zu_nrock12, zu_nrock13, zu_nrock14, zu_ntug0, zu_ntug1, zu_ntug2, zu_ntug3, zu_ntug4, zu_ntug5, zu_ntug6, zu_ntug7, zu_ntug8, zu_ntug9, zu_ntug10, zu_ntug11, zu_ntug12, zu_ntug13, zu_ntug14, zu_ntug15, zu_ntug17, zu_ntug18, zu_ntug19, zu_ntug20, zu_ntug21, zu_ntug22, zu_ncon0, zu_ncon1, zu_ncon2, zu_ncon3, zu_ncon4, zu_ncon5, zu_ncon6, zu_nwin0, zu_nwin1, zu_nwin2, zu_nwin3, zu_nwin4, zu_nwin5, zu_ncode3, zu_nrule, zu_nstock, zu_nhold, zu_nknown, zu_nord, zu_nrep, zu_ncla, zu_ntou, zu_ncel]
theorem B_f (D D' L p r2 r3 s4 : Nat) (hp : p < 4) (T : Nat → Nat) (n : Nat) (x : zLx) (be N j : Nat) (hk : zTk T n x) (hD : 6 ≤ D) (hD' : D' + 1 ≤ D) (hs : zisg T x 123) (h4b : be < 4) {G : List zUn} {c : Nat} {x' : zLx} (hsub : zAf D' L p r2 r3 s4 T n 17 [.ref 190, zmk] (zadv T n x) (be + 1) N j x') : zAf D L p r2 r3 s4 T n 32 [.ref 190] x be N j x' := by
  have hkind : x.2.2 = 3 := hs.1
  have ha := zadv_k T n x hk.2.1
  have hlt := hk.2.2.2.2.1 (by rw [hkind]; decide)
  intro e he C t h h6 h7 h8 h9 hU hUx
  obtain ⟨d, rfl⟩ : ∃ d, e = d + 6 := ⟨e - 6, by omega⟩
  have c1 : ¬ (4 : Int32) ≤ nI be := nI_ge (b := 4) h4b (by decide)
  obtain ⟨F, t3, f2, f3⟩ := C29_y (d + 2) L p r2 r3 s4 C h hk hs
  have t3 : zR (d + 5) 29 0 [.ref 190, .int 123] [] (zZ L, zI C, zPd 184 (85 + 2 * p) r2 r3 s4) = some (some (.int 1), (zZ L, zI (zcs C 390 F), zPd 184 (85 + 2 * p) r2 r3 s4)) := t3
  have e0 := zCk_go hp f2 f3 hU
  have r6 : F 0 6 = nI be := (f3 6 (by decide) (by decide) (by decide)).trans h6
  obtain ⟨C3, t4, e1, e2⟩ := hsub (d + 5) (by omega) (zcs (zcs C 390 F) 390 (zup ((zcs C 390 F) 390) 0 6 (nI (be + 1)))) t (zPC_f f2 (by decide)) (by rw [zcs_eq, zup_g]) (by rw [zcs_eq, zup_n _ _ (by omega), zcs_eq]; exact (f3 7 (by decide) (by decide) (by decide)).trans h7) (by rw [zcs_eq, zup_n _ _ (by omega), zcs_eq]; exact (f3 8 (by decide) (by decide) (by decide)).trans h8) (by rw [zcs_eq, zup_n _ _ (by omega), zcs_eq]; exact (f3 9 (by decide) (by decide) (by decide)).trans h9) (by rw [zcs_n _ _ (by decide), zcs_n _ _ (by decide)]; exact hU) (by omega)
  rw [zcs_eq, zcs_cs] at t4
  refine ⟨C3, ?_, e1, zFC_t (zFC_t (zFC_390 C F) (zFC_390 _ _)) e2⟩
  simp +decide (disch := omega) only [e32_0, e32_8, e32_14, e32_19, e32_33, h6, r6, c1, t3, t4, e32_45, zpre, ite_self, zs1, zs2, zs3, zI_eqb, and_self, not_true_eq_false, if_true, if_false, ite_true, ite_false, not_false_eq_true, zBP, zBZ, zisO, zisA, zlen, decide_true, decide_false, Bool.and_self, Bool.and_true, Bool.true_and, cond_true, cond_false, zBG, zBR, zBU, zBV, zinb_n, zix_n, zlA, zlB, zlM, zlN, zlX, zlI, nI_add, Nat.add_eq_zero_iff, false_and, and_false, and_true, true_and, true_or, or_true, false_or, or_false, zbool_i, zb0, zb1, zshp_0, zcs_eq, zcs_n, zcs_cs, zup_g, zup_n, zp2_sun, zp2_rock, zp2_tug, zp2_contract, zp2_window, zp2_code, zp2_rbody, zp2_rstock, zp2_tfree, zp2_thold, zp2_tknown, zp2_ccells, zsh2_sun, zsh2_rock, zsh2_body, zsh2_stock, zsh2_tug, zsh2_free, zsh2_hold, zsh2_known, zsh2_contract, zsh2_window, zsh2_code, zsh2_cells, zg_nsun0, zg_nsun1, zg_nsun2, zg_nrock0, zg_nrock1, zg_nrock2, zg_nrock3, zg_nrock4, zg_nrock5, zg_nrock6, zg_nrock7, zg_nrock8, zg_nrock9, zg_nrock10, zg_nrock11, zg_nrock12, zg_nrock13, zg_nrock14, zg_ntug0, zg_ntug1, zg_ntug2, zg_ntug3, zg_ntug4, zg_ntug5, zg_ntug6, zg_ntug7, zg_ntug8, zg_ntug9, zg_ntug10, zg_ntug11, zg_ntug12, zg_ntug13, zg_ntug14, zg_ntug15, zg_ntug17, zg_ntug18, zg_ntug19, zg_ntug20, zg_ntug21, zg_ntug22, zg_ncon0, zg_ncon1, zg_ncon2, zg_ncon3, zg_ncon4, zg_ncon5, zg_ncon6, zg_nwin0, zg_nwin1, zg_nwin2, zg_nwin3, zg_nwin4, zg_nwin5, zg_ncode0, zg_ncode1, zg_ncode3, zg_nrule, zg_nstock, zg_nhold, zg_nknown, zg_nord, zg_nrep, zg_ncla, zg_ntou, zg_ncel, zu_nsun0, zu_nsun1, zu_nsun2, zu_nrock0, zu_nrock1, zu_nrock2, zu_nrock3, zu_nrock4, zu_nrock5, zu_nrock6, zu_nrock7, zu_nrock8, zu_nrock9, zu_nrock10, zu_nrock11, zu_nrock12, zu_nrock13, zu_nrock14, zu_ntug0, zu_ntug1, zu_ntug2, zu_ntug3, zu_ntug4, zu_ntug5, zu_ntug6, zu_ntug7, zu_ntug8, zu_ntug9, zu_ntug10, zu_ntug11, zu_ntug12, zu_ntug13, zu_ntug14, zu_ntug15, zu_ntug17, zu_ntug18, zu_ntug19, zu_ntug20, zu_ntug21, zu_ntug22, zu_ncon0, zu_ncon1, zu_ncon2, zu_ncon3, zu_ncon4, zu_ncon5, zu_ncon6, zu_nwin0, zu_nwin1, zu_nwin2, zu_nwin3, zu_nwin4, zu_nwin5, zu_ncode3, zu_nrule, zu_nstock, zu_nhold, zu_nknown, zu_nord, zu_nrep, zu_ncla, zu_ntou, zu_ncel]
/-- as zAt, with room for one row more -/
def zIt (D L p r2 r3 s4 : Nat) (T : Nat → Nat) (n y : Nat) (lv : List Value) (x : zLx) (be N j : Nat) (G : List zUn) (c : Nat) (x' : zLx) : Prop := x.1 + (G.length + zwc G) ≤ x'.1 ∧ x.1 < x'.1 ∧ zTk T n x' ∧ ∀ d, D ≤ d → ∀ (C : zCt) (t : Nat), zPC T n C x → C 390 0 6 = nI be → C 390 0 7 = nI 0 → C 390 0 8 = nI 0 → C 390 0 9 = nI t → C 0 0 (14 + p) = nI (N + j) → N + j + 1 ≤ x.1 → ∃ C', zR d y 0 lv [] (zZ L, zI C, zPd 184 (85 + 2 * p) r2 r3 s4) = some (some (.int 1), (zZ L, zI C', zPd 184 (85 + 2 * p) r2 r3 s4)) ∧ zCa p T n (N + j) t c C C' G x'
def zIf (D L p r2 r3 s4 : Nat) (T : Nat → Nat) (n y : Nat) (lv : List Value) (x : zLx) (be N j : Nat) (x' : zLx) : Prop := ∀ d, D ≤ d → ∀ (C : zCt) (t : Nat), zPC T n C x → C 390 0 6 = nI be → C 390 0 7 = nI 0 → C 390 0 8 = nI 0 → C 390 0 9 = nI t → C 0 0 (14 + p) = nI (N + j) → N + j + 1 ≤ x.1 → ∃ C', zR d y 0 lv [] (zZ L, zI C, zPd 184 (85 + 2 * p) r2 r3 s4) = some (some (.int 0), (zZ L, zI C', zPd 184 (85 + 2 * p) r2 r3 s4)) ∧ C' 390 0 4 = nI x'.1 ∧ zFC p C C'

theorem I_f (D D' L p r2 r3 s4 : Nat) (hp : p < 4) (hD : 87 ≤ D) (hD' : D' + 1 ≤ D) (T : Nat → Nat) (n : Nat) (x : zLx) (be N j : Nat) (hk : zTk T n x) {x2 : zLx} (h1 : zEf 84 L p r2 r3 s4 T n 24 [.ref 190, .int 0, zmk, zmk] x 0 0 x2) : zIf D L p r2 r3 s4 T n 31 [.ref 190, zmk, zmk] x be N j x2 := by
  intro e he C t h h6 h7 h8 h9 hU hUx
  obtain ⟨d, rfl⟩ : ∃ d, e = d + 87 := ⟨e - 87, by omega⟩
  obtain ⟨C1, t1, k1, k2⟩ := h1 (d + 86) (by omega) C (N + j) h h7 h8 hU (by omega)
  refine ⟨C1, ?_, k1, k2⟩
  simp +decide (disch := omega) only [e31_0, e31_5, e31_8, t1, zpre, ite_self, zs1, zs2, zs3, zI_eqb, and_self, not_true_eq_false, if_true, if_false, ite_true, ite_false, not_false_eq_true, zBP, zBZ, zisO, zisA, zlen, decide_true, decide_false, Bool.and_self, Bool.and_true, Bool.true_and, cond_true, cond_false, zBG, zBR, zBU, zBV, zinb_n, zix_n, zlA, zlB, zlM, zlN, zlX, zlI, nI_add, Nat.add_eq_zero_iff, false_and, and_false, and_true, true_and, true_or, or_true, false_or, or_false, zbool_i, zb0, zb1, zshp_0, zcs_eq, zcs_n, zcs_cs, zup_g, zup_n, zp2_sun, zp2_rock, zp2_tug, zp2_contract, zp2_window, zp2_code, zp2_rbody, zp2_rstock, zp2_tfree, zp2_thold, zp2_tknown, zp2_ccells, zsh2_sun, zsh2_rock, zsh2_body, zsh2_stock, zsh2_tug, zsh2_free, zsh2_hold, zsh2_known, zsh2_contract, zsh2_window, zsh2_code, zsh2_cells, zg_nsun0, zg_nsun1, zg_nsun2, zg_nrock0, zg_nrock1, zg_nrock2, zg_nrock3, zg_nrock4, zg_nrock5, zg_nrock6, zg_nrock7, zg_nrock8, zg_nrock9, zg_nrock10, zg_nrock11, zg_nrock12, zg_nrock13, zg_nrock14, zg_ntug0, zg_ntug1, zg_ntug2, zg_ntug3, zg_ntug4, zg_ntug5, zg_ntug6, zg_ntug7, zg_ntug8, zg_ntug9, zg_ntug10, zg_ntug11, zg_ntug12, zg_ntug13, zg_ntug14, zg_ntug15, zg_ntug17, zg_ntug18, zg_ntug19, zg_ntug20, zg_ntug21, zg_ntug22, zg_ncon0, zg_ncon1, zg_ncon2, zg_ncon3, zg_ncon4, zg_ncon5, zg_ncon6, zg_nwin0, zg_nwin1, zg_nwin2, zg_nwin3, zg_nwin4, zg_nwin5, zg_ncode0, zg_ncode1, zg_ncode3, zg_nrule, zg_nstock, zg_nhold, zg_nknown, zg_nord, zg_nrep, zg_ncla, zg_ntou, zg_ncel, zu_nsun0, zu_nsun1, zu_nsun2, zu_nrock0, zu_nrock1, zu_nrock2, zu_nrock3, zu_nrock4, zu_nrock5, zu_nrock6, zu_nrock7, zu_nrock8, zu_nrock9, zu_nrock10, zu_nrock11, zu_nrock12, zu_nrock13, zu_nrock14, zu_ntug0, zu_ntug1, zu_ntug2, zu_ntug3, zu_ntug4, zu_ntug5, zu_ntug6, zu_ntug7, zu_ntug8, zu_ntug9, zu_ntug10, zu_ntug11, zu_ntug12, zu_ntug13, zu_ntug14, zu_ntug15, zu_ntug17, zu_ntug18, zu_ntug19, zu_ntug20, zu_ntug21, zu_ntug22, zu_ncon0, zu_ncon1, zu_ncon2, zu_ncon3, zu_ncon4, zu_ncon5, zu_ncon6, zu_nwin0, zu_nwin1, zu_nwin2, zu_nwin3, zu_nwin4, zu_nwin5, zu_ncode3, zu_nrule, zu_nstock, zu_nhold, zu_nknown, zu_nord, zu_nrep, zu_ncla, zu_ntou, zu_ncel]
theorem I_g (D D' L p r2 r3 s4 : Nat) (hp : p < 4) (hD : 87 ≤ D) (hD' : D' + 1 ≤ D) (T : Nat → Nat) (n : Nat) (x : zLx) (be N j : Nat) (hk : zTk T n x) {ws : List (Int32 × Int32)} {x2 x5 : zLx} (h1 : zEt 84 L p r2 r3 s4 T n 24 [.ref 190, .int 0, zmk, zmk] x 0 0 ws x2) (h2 : zAf D' L p r2 r3 s4 T n 32 [.ref 190] x2 be (N + 1) (j + ws.length) x5) : zIf D L p r2 r3 s4 T n 31 [.ref 190, zmk, zmk] x be N j x5 := by
  obtain ⟨a1, a2, a3, a4⟩ := h1
  intro e he C t h h6 h7 h8 h9 hU hUx
  obtain ⟨d, rfl⟩ : ∃ d, e = d + 87 := ⟨e - 87, by omega⟩
  have h120 := h.1.2.1
  have hn := hk.2.1
  obtain ⟨C1, t1, k1⟩ := a4 (d + 86) (by omega) C (N + j) h h7 h8 hU (by omega)
  have e1 := zCa_un hp k1 h9 (0, 0, 0, 0) 12 0
  have t2 := C23 (d + 85) L p r2 r3 s4 hp C1 (U := N + j + ws.length) (by have := a3.1; have := a3.2.1; omega) k1.2.2.2.1 12 0
  obtain ⟨C2, hC2⟩ : ∃ C2, C2 = zem p C1 (N + j + ws.length) 12 0 := ⟨_, rfl⟩
  rw [← hC2] at e1 t2
  have u1 : C2 0 0 (14 + p) = nI (N + 1 + (j + ws.length)) := by
    rw [e1.2.2.2.2.1]
    congr 1
    simp only [List.length_cons, List.length_nil, zwc]
    omega
  have q6 : C2 390 0 6 = nI be := by rw [e1.2.2.1 6 (by decide) (by decide) (by decide) (by decide)]; exact h6
  have q7 : C2 390 0 7 = nI 0 := by rw [e1.2.2.1 7 (by decide) (by decide) (by decide) (by decide)]; exact h7
  have q8 : C2 390 0 8 = nI 0 := by rw [e1.2.2.1 8 (by decide) (by decide) (by decide) (by decide)]; exact h8
  obtain ⟨C3, t3, e2, e3⟩ := h2 (d + 86) (by omega) C2 t e1.1 q6 q7 q8 e1.2.2.2.1 u1 (by omega)
  refine ⟨C3, ?_, e2, zFC_t e1.2.1 e3⟩
  simp +decide (disch := omega) only [e31_0, e31_5, e31_10, e31_17, e31_22, e31_25, t1, t2, t3, zpre, ite_self, zs1, zs2, zs3, zI_eqb, and_self, not_true_eq_false, if_true, if_false, ite_true, ite_false, not_false_eq_true, zBP, zBZ, zisO, zisA, zlen, decide_true, decide_false, Bool.and_self, Bool.and_true, Bool.true_and, cond_true, cond_false, zBG, zBR, zBU, zBV, zinb_n, zix_n, zlA, zlB, zlM, zlN, zlX, zlI, nI_add, Nat.add_eq_zero_iff, false_and, and_false, and_true, true_and, true_or, or_true, false_or, or_false, zbool_i, zb0, zb1, zshp_0, zcs_eq, zcs_n, zcs_cs, zup_g, zup_n, zp2_sun, zp2_rock, zp2_tug, zp2_contract, zp2_window, zp2_code, zp2_rbody, zp2_rstock, zp2_tfree, zp2_thold, zp2_tknown, zp2_ccells, zsh2_sun, zsh2_rock, zsh2_body, zsh2_stock, zsh2_tug, zsh2_free, zsh2_hold, zsh2_known, zsh2_contract, zsh2_window, zsh2_code, zsh2_cells, zg_nsun0, zg_nsun1, zg_nsun2, zg_nrock0, zg_nrock1, zg_nrock2, zg_nrock3, zg_nrock4, zg_nrock5, zg_nrock6, zg_nrock7, zg_nrock8, zg_nrock9, zg_nrock10, zg_nrock11, zg_nrock12, zg_nrock13, zg_nrock14, zg_ntug0, zg_ntug1, zg_ntug2, zg_ntug3, zg_ntug4, zg_ntug5, zg_ntug6, zg_ntug7, zg_ntug8, zg_ntug9, zg_ntug10, zg_ntug11, zg_ntug12, zg_ntug13, zg_ntug14, zg_ntug15, zg_ntug17, zg_ntug18, zg_ntug19, zg_ntug20, zg_ntug21, zg_ntug22, zg_ncon0, zg_ncon1, zg_ncon2, zg_ncon3, zg_ncon4, zg_ncon5, zg_ncon6, zg_nwin0, zg_nwin1, zg_nwin2, zg_nwin3, zg_nwin4, zg_nwin5, zg_ncode0, zg_ncode1, zg_ncode3, zg_nrule, zg_nstock, zg_nhold, zg_nknown, zg_nord, zg_nrep, zg_ncla, zg_ntou, zg_ncel, zu_nsun0, zu_nsun1, zu_nsun2, zu_nrock0, zu_nrock1, zu_nrock2, zu_nrock3, zu_nrock4, zu_nrock5, zu_nrock6, zu_nrock7, zu_nrock8, zu_nrock9, zu_nrock10, zu_nrock11, zu_nrock12, zu_nrock13, zu_nrock14, zu_ntug0, zu_ntug1, zu_ntug2, zu_ntug3, zu_ntug4, zu_ntug5, zu_ntug6, zu_ntug7, zu_ntug8, zu_ntug9, zu_ntug10, zu_ntug11, zu_ntug12, zu_ntug13, zu_ntug14, zu_ntug15, zu_ntug17, zu_ntug18, zu_ntug19, zu_ntug20, zu_ntug21, zu_ntug22, zu_ncon0, zu_ncon1, zu_ncon2, zu_ncon3, zu_ncon4, zu_ncon5, zu_ncon6, zu_nwin0, zu_nwin1, zu_nwin2, zu_nwin3, zu_nwin4, zu_nwin5, zu_ncode3, zu_nrule, zu_nstock, zu_nhold, zu_nknown, zu_nord, zu_nrep, zu_ncla, zu_ntou, zu_ncel]

theorem W_f (D D' L p r2 r3 s4 : Nat) (hp : p < 4) (hD : 87 ≤ D) (hD' : D' + 1 ≤ D) (T : Nat → Nat) (n : Nat) (x : zLx) (be N j : Nat) (hk : zTk T n x) {x2 : zLx} (h1 : zEf 84 L p r2 r3 s4 T n 24 [.ref 190, .int 0, zmk, zmk] x 0 0 x2) : zIf D L p r2 r3 s4 T n 34 [.ref 190, zmk, zmk] x be N j x2 := by
  intro e he C t h h6 h7 h8 h9 hU hUx
  obtain ⟨d, rfl⟩ : ∃ d, e = d + 87 := ⟨e - 87, by omega⟩
  obtain ⟨C1, t1, k1, k2⟩ := h1 (d + 86) (by omega) C (N + j) h h7 h8 hU (by omega)
  have t0 := T43c (d + 86) L 184 (85 + 2 * p) r2 r3 s4 C hp
  rw [hU] at t0
  refine ⟨C1, ?_, k1, k2⟩
  simp +decide (disch := omega) only [e34_0, e34_7, e34_13, e34_16, t1, t0, zpre, ite_self, zs1, zs2, zs3, zI_eqb, and_self, not_true_eq_false, if_true, if_false, ite_true, ite_false, not_false_eq_true, zBP, zBZ, zisO, zisA, zlen, decide_true, decide_false, Bool.and_self, Bool.and_true, Bool.true_and, cond_true, cond_false, zBG, zBR, zBU, zBV, zinb_n, zix_n, zlA, zlB, zlM, zlN, zlX, zlI, nI_add, Nat.add_eq_zero_iff, false_and, and_false, and_true, true_and, true_or, or_true, false_or, or_false, zbool_i, zb0, zb1, zshp_0, zcs_eq, zcs_n, zcs_cs, zup_g, zup_n, zp2_sun, zp2_rock, zp2_tug, zp2_contract, zp2_window, zp2_code, zp2_rbody, zp2_rstock, zp2_tfree, zp2_thold, zp2_tknown, zp2_ccells, zsh2_sun, zsh2_rock, zsh2_body, zsh2_stock, zsh2_tug, zsh2_free, zsh2_hold, zsh2_known, zsh2_contract, zsh2_window, zsh2_code, zsh2_cells, zg_nsun0, zg_nsun1, zg_nsun2, zg_nrock0, zg_nrock1, zg_nrock2, zg_nrock3, zg_nrock4, zg_nrock5, zg_nrock6, zg_nrock7, zg_nrock8, zg_nrock9, zg_nrock10, zg_nrock11, zg_nrock12, zg_nrock13, zg_nrock14, zg_ntug0, zg_ntug1, zg_ntug2, zg_ntug3, zg_ntug4, zg_ntug5, zg_ntug6, zg_ntug7, zg_ntug8, zg_ntug9, zg_ntug10, zg_ntug11, zg_ntug12, zg_ntug13, zg_ntug14, zg_ntug15, zg_ntug17, zg_ntug18, zg_ntug19, zg_ntug20, zg_ntug21, zg_ntug22, zg_ncon0, zg_ncon1, zg_ncon2, zg_ncon3, zg_ncon4, zg_ncon5, zg_ncon6, zg_nwin0, zg_nwin1, zg_nwin2, zg_nwin3, zg_nwin4, zg_nwin5, zg_ncode0, zg_ncode1, zg_ncode3, zg_nrule, zg_nstock, zg_nhold, zg_nknown, zg_nord, zg_nrep, zg_ncla, zg_ntou, zg_ncel, zu_nsun0, zu_nsun1, zu_nsun2, zu_nrock0, zu_nrock1, zu_nrock2, zu_nrock3, zu_nrock4, zu_nrock5, zu_nrock6, zu_nrock7, zu_nrock8, zu_nrock9, zu_nrock10, zu_nrock11, zu_nrock12, zu_nrock13, zu_nrock14, zu_ntug0, zu_ntug1, zu_ntug2, zu_ntug3, zu_ntug4, zu_ntug5, zu_ntug6, zu_ntug7, zu_ntug8, zu_ntug9, zu_ntug10, zu_ntug11, zu_ntug12, zu_ntug13, zu_ntug14, zu_ntug15, zu_ntug17, zu_ntug18, zu_ntug19, zu_ntug20, zu_ntug21, zu_ntug22, zu_ncon0, zu_ncon1, zu_ncon2, zu_ncon3, zu_ncon4, zu_ncon5, zu_ncon6, zu_nwin0, zu_nwin1, zu_nwin2, zu_nwin3, zu_nwin4, zu_nwin5, zu_ncode3, zu_nrule, zu_nstock, zu_nhold, zu_nknown, zu_nord, zu_nrep, zu_ncla, zu_ntou, zu_ncel]
theorem W_g (D D' L p r2 r3 s4 : Nat) (hp : p < 4) (hD : 87 ≤ D) (hD' : D' + 1 ≤ D) (T : Nat → Nat) (n : Nat) (x : zLx) (be N j : Nat) (hk : zTk T n x) {ws : List (Int32 × Int32)} {x2 x5 : zLx} (h1 : zEt 84 L p r2 r3 s4 T n 24 [.ref 190, .int 0, zmk, zmk] x 0 0 ws x2) (h2 : zAf D' L p r2 r3 s4 T n 32 [.ref 190] x2 be (N + 1) (j + ws.length) x5) : zIf D L p r2 r3 s4 T n 34 [.ref 190, zmk, zmk] x be N j x5 := by
  obtain ⟨a1, a2, a3, a4⟩ := h1
  intro e he C t h h6 h7 h8 h9 hU hUx
  obtain ⟨d, rfl⟩ : ∃ d, e = d + 87 := ⟨e - 87, by omega⟩
  have h120 := h.1.2.1
  have hn := hk.2.1
  obtain ⟨C1, t1, k1⟩ := a4 (d + 86) (by omega) C (N + j) h h7 h8 hU (by omega)
  have e1 := zCa_un hp k1 h9 (0, 0, 0, 0) 13 0
  have t2 := C23 (d + 85) L p r2 r3 s4 hp C1 (U := N + j + ws.length) (by have := a3.1; have := a3.2.1; omega) k1.2.2.2.1 13 0
  obtain ⟨C2, hC2⟩ : ∃ C2, C2 = zem p C1 (N + j + ws.length) 13 0 := ⟨_, rfl⟩
  rw [← hC2] at e1 t2
  have u1 : C2 0 0 (14 + p) = nI (N + 1 + (j + ws.length)) := by
    rw [e1.2.2.2.2.1]
    congr 1
    simp only [List.length_cons, List.length_nil, zwc]
    omega
  have q6 : C2 390 0 6 = nI be := by rw [e1.2.2.1 6 (by decide) (by decide) (by decide) (by decide)]; exact h6
  have q7 : C2 390 0 7 = nI 0 := by rw [e1.2.2.1 7 (by decide) (by decide) (by decide) (by decide)]; exact h7
  have q8 : C2 390 0 8 = nI 0 := by rw [e1.2.2.1 8 (by decide) (by decide) (by decide) (by decide)]; exact h8
  have t0 := T43c (d + 86) L 184 (85 + 2 * p) r2 r3 s4 C hp
  rw [hU] at t0
  obtain ⟨C3, t3, e2, e3⟩ := h2 (d + 86) (by omega) C2 t e1.1 q6 q7 q8 e1.2.2.2.1 u1 (by omega)
  refine ⟨C3, ?_, e2, zFC_t e1.2.1 e3⟩
  simp +decide (disch := omega) only [e34_0, e34_7, e34_13, e34_18, e34_25, e34_30, e34_33, t1, t2, t3, t0, zpre, ite_self, zs1, zs2, zs3, zI_eqb, and_self, not_true_eq_false, if_true, if_false, ite_true, ite_false, not_false_eq_true, zBP, zBZ, zisO, zisA, zlen, decide_true, decide_false, Bool.and_self, Bool.and_true, Bool.true_and, cond_true, cond_false, zBG, zBR, zBU, zBV, zinb_n, zix_n, zlA, zlB, zlM, zlN, zlX, zlI, nI_add, Nat.add_eq_zero_iff, false_and, and_false, and_true, true_and, true_or, or_true, false_or, or_false, zbool_i, zb0, zb1, zshp_0, zcs_eq, zcs_n, zcs_cs, zup_g, zup_n, zp2_sun, zp2_rock, zp2_tug, zp2_contract, zp2_window, zp2_code, zp2_rbody, zp2_rstock, zp2_tfree, zp2_thold, zp2_tknown, zp2_ccells, zsh2_sun, zsh2_rock, zsh2_body, zsh2_stock, zsh2_tug, zsh2_free, zsh2_hold, zsh2_known, zsh2_contract, zsh2_window, zsh2_code, zsh2_cells, zg_nsun0, zg_nsun1, zg_nsun2, zg_nrock0, zg_nrock1, zg_nrock2, zg_nrock3, zg_nrock4, zg_nrock5, zg_nrock6, zg_nrock7, zg_nrock8, zg_nrock9, zg_nrock10, zg_nrock11, zg_nrock12, zg_nrock13, zg_nrock14, zg_ntug0, zg_ntug1, zg_ntug2, zg_ntug3, zg_ntug4, zg_ntug5, zg_ntug6, zg_ntug7, zg_ntug8, zg_ntug9, zg_ntug10, zg_ntug11, zg_ntug12, zg_ntug13, zg_ntug14, zg_ntug15, zg_ntug17, zg_ntug18, zg_ntug19, zg_ntug20, zg_ntug21, zg_ntug22, zg_ncon0, zg_ncon1, zg_ncon2, zg_ncon3, zg_ncon4, zg_ncon5, zg_ncon6, zg_nwin0, zg_nwin1, zg_nwin2, zg_nwin3, zg_nwin4, zg_nwin5, zg_ncode0, zg_ncode1, zg_ncode3, zg_nrule, zg_nstock, zg_nhold, zg_nknown, zg_nord, zg_nrep, zg_ncla, zg_ntou, zg_ncel, zu_nsun0, zu_nsun1, zu_nsun2, zu_nrock0, zu_nrock1, zu_nrock2, zu_nrock3, zu_nrock4, zu_nrock5, zu_nrock6, zu_nrock7, zu_nrock8, zu_nrock9, zu_nrock10, zu_nrock11, zu_nrock12, zu_nrock13, zu_nrock14, zu_ntug0, zu_ntug1, zu_ntug2, zu_ntug3, zu_ntug4, zu_ntug5, zu_ntug6, zu_ntug7, zu_ntug8, zu_ntug9, zu_ntug10, zu_ntug11, zu_ntug12, zu_ntug13, zu_ntug14, zu_ntug15, zu_ntug17, zu_ntug18, zu_ntug19, zu_ntug20, zu_ntug21, zu_ntug22, zu_ncon0, zu_ncon1, zu_ncon2, zu_ncon3, zu_ncon4, zu_ncon5, zu_ncon6, zu_nwin0, zu_nwin1, zu_nwin2, zu_nwin3, zu_nwin4, zu_nwin5, zu_ncode3, zu_nrule, zu_nstock, zu_nhold, zu_nknown, zu_nord, zu_nrep, zu_ncla, zu_ntou, zu_ncel]

theorem I_t (D D' L p r2 r3 s4 : Nat) (hp : p < 4) (hD : 87 ≤ D) (hD' : D' + 1 ≤ D) (T : Nat → Nat) (n : Nat) (x : zLx) (be N j : Nat) (hk : zTk T n x) {ws : List (Int32 × Int32)} {G1 : List zUn} {c1 : Nat} {x2 x5 : zLx} (h1 : zEt 84 L p r2 r3 s4 T n 24 [.ref 190, .int 0, zmk, zmk] x 0 0 ws x2) (h2 : zAt D' L p r2 r3 s4 T n 32 [.ref 190] x2 be (N + 1) (j + ws.length) G1 c1 x5) (hroom : x2.1 + (G1.length + zwc G1) + 2 ≤ x5.1) (hV : zV T x5 ≠ zWK 14) : zIt D L p r2 r3 s4 T n 31 [.ref 190, zmk, zmk] x be N j ((ws, (13, nI j, nI (j + ws.length), nI (N + 1 + G1.length)), (12, nI (N + 1 + G1.length + (j + ws.length + zwc G1)))) :: G1) c1 x5 := by
  obtain ⟨a1, a2, a3, a4⟩ := h1
  obtain ⟨b1, b2, b3, b4⟩ := h2
  have hn5 := b3.1
  have hn6 := b3.2.1
  refine ⟨by simp only [List.length_cons, List.length_nil, List.length_append, zwc, zwc_app]; omega, by omega, b3, ?_⟩
  intro e he C t h h6 h7 h8 h9 hU hUx
  obtain ⟨d, rfl⟩ : ∃ d, e = d + 87 := ⟨e - 87, by omega⟩
  have h120 := h.1.2.1
  have hn := hk.2.1
  obtain ⟨C1, t1, k1⟩ := a4 (d + 86) (by omega) C (N + j) h h7 h8 hU (by omega)
  have e1 := zCa_un hp k1 h9 (13, nI j, nI (j + ws.length), nI (N + 1 + G1.length)) 12 0
  have t2 := C23 (d + 85) L p r2 r3 s4 hp C1 (U := N + j + ws.length) (by have := a3.1; have := a3.2.1; omega) k1.2.2.2.1 12 0
  obtain ⟨C2, hC2⟩ : ∃ C2, C2 = zem p C1 (N + j + ws.length) 12 0 := ⟨_, rfl⟩
  rw [← hC2] at e1 t2
  have u1 : C2 0 0 (14 + p) = nI (N + 1 + (j + ws.length)) := by
    rw [e1.2.2.2.2.1]
    congr 1
    simp only [List.length_cons, List.length_nil, zwc]
    omega
  have q6 : C2 390 0 6 = nI be := by rw [e1.2.2.1 6 (by decide) (by decide) (by decide) (by decide)]; exact h6
  have q7 : C2 390 0 7 = nI 0 := by rw [e1.2.2.1 7 (by decide) (by decide) (by decide) (by decide)]; exact h7
  have q8 : C2 390 0 8 = nI 0 := by rw [e1.2.2.1 8 (by decide) (by decide) (by decide) (by decide)]; exact h8
  obtain ⟨C3, t3, e2⟩ := b4 (d + 86) (by omega) C2 t e1.1 q6 q7 q8 e1.2.2.2.1 u1 (by omega)
  have e3 : zCa p T n (N + j) t c1 C C3 ((ws, (13, nI j, nI (j + ws.length), nI (N + 1 + G1.length)), (12, 0)) :: G1) x5 := by
    have := zCa_t e1 (show zCa p T n (N + j + (([(ws, (13, nI j, nI (j + ws.length), nI (N + 1 + G1.length)), (12, 0))] : List zUn).length + zwc [(ws, (13, nI j, nI (j + ws.length), nI (N + 1 + G1.length)), (12, 0))])) (t + 0) c1 C2 C3 G1 x5 from by
      rw [show N + j + (([(ws, (13, nI j, nI (j + ws.length), nI (N + 1 + G1.length)), (12, 0))] : List zUn).length + zwc [(ws, (13, nI j, nI (j + ws.length), nI (N + 1 + G1.length)), (12, 0))]) = N + 1 + (j + ws.length) by simp only [List.length_cons, List.length_nil, zwc]; omega]
      exact e2)
    rw [Nat.zero_add] at this
    exact this
  have u3 : C3 0 0 (14 + p) = nI (N + 1 + G1.length + (j + ws.length + zwc G1)) := by
    rw [e3.2.2.2.2.1]
    congr 1
    simp only [List.length_cons, List.length_nil, List.length_append, zwc, zwc_app]
    omega
  have e4 := zCa_pt hp (Ga := []) (row := N + j + ws.length) e3 (by simp only [List.length_nil, zwc]; omega) (nI (N + 1 + G1.length + (j + ws.length + zwc G1)))
  have t4 := C19 (d + 84) L p r2 r3 s4 C3 e3.1 b3 zmk
  have t5 := C33 (d + 85) L p r2 r3 s4 hp C3 (row := N + j + ws.length) (U := N + 1 + G1.length + (j + ws.length + zwc G1)) (by omega) (by omega) u3
  have c14 : ¬ zfj (zV T x5) 15 0 = 14 := by
    rcases zfj_14 (zV T x5) with q | ⟨w, w1, w2, w3⟩
    · rw [q]; decide
    · rw [w2]
      intro q
      have := (nI_eq (b := 14) (by omega) (by decide)).mp q
      exact hV (by rw [w3, this])
  refine ⟨_, ?_, e4⟩
  simp +decide (disch := omega) only [e31_0, e31_5, e31_10, e31_17, e31_22, e31_27, e31_31, e31_36, e31_41, t1, t2, t3, t4, t5, c14, zpre, ite_self, zs1, zs2, zs3, zI_eqb, and_self, not_true_eq_false, if_true, if_false, ite_true, ite_false, not_false_eq_true, zBP, zBZ, zisO, zisA, zlen, decide_true, decide_false, Bool.and_self, Bool.and_true, Bool.true_and, cond_true, cond_false, zBG, zBR, zBU, zBV, zinb_n, zix_n, zlA, zlB, zlM, zlN, zlX, zlI, nI_add, Nat.add_eq_zero_iff, false_and, and_false, and_true, true_and, true_or, or_true, false_or, or_false, zbool_i, zb0, zb1, zshp_0, zcs_eq, zcs_n, zcs_cs, zup_g, zup_n, zp2_sun, zp2_rock, zp2_tug, zp2_contract, zp2_window, zp2_code, zp2_rbody, zp2_rstock, zp2_tfree, zp2_thold, zp2_tknown, zp2_ccells, zsh2_sun, zsh2_rock, zsh2_body, zsh2_stock, zsh2_tug, zsh2_free, zsh2_hold, zsh2_known, zsh2_contract, zsh2_window, zsh2_code, zsh2_cells, zg_nsun0, zg_nsun1, zg_nsun2, zg_nrock0, zg_nrock1, zg_nrock2, zg_nrock3, zg_nrock4, zg_nrock5, zg_nrock6, zg_nrock7, zg_nrock8, zg_nrock9, zg_nrock10, zg_nrock11, zg_nrock12, zg_nrock13, zg_nrock14, zg_ntug0, zg_ntug1, zg_ntug2, zg_ntug3, zg_ntug4, zg_ntug5, zg_ntug6, zg_ntug7, zg_ntug8, zg_ntug9, zg_ntug10, zg_ntug11, zg_ntug12, zg_ntug13, zg_ntug14, zg_ntug15, zg_ntug17, zg_ntug18, zg_ntug19, zg_ntug20, zg_ntug21, zg_ntug22, zg_ncon0, zg_ncon1, zg_ncon2, zg_ncon3, zg_ncon4, zg_ncon5, zg_ncon6, zg_nwin0, zg_nwin1, zg_nwin2, zg_nwin3, zg_nwin4, zg_nwin5, zg_ncode0, zg_ncode1, zg_ncode3, zg_nrule, zg_nstock, zg_nhold, zg_nknown, zg_nord, zg_nrep, zg_ncla, zg_ntou, zg_ncel, zu_nsun0, zu_nsun1, zu_nsun2, zu_nrock0, zu_nrock1, zu_nrock2, zu_nrock3, zu_nrock4, zu_nrock5, zu_nrock6, zu_nrock7, zu_nrock8, zu_nrock9, zu_nrock10, zu_nrock11, zu_nrock12, zu_nrock13, zu_nrock14, zu_ntug0, zu_ntug1, zu_ntug2, zu_ntug3, zu_ntug4, zu_ntug5, zu_ntug6, zu_ntug7, zu_ntug8, zu_ntug9, zu_ntug10, zu_ntug11, zu_ntug12, zu_ntug13, zu_ntug14, zu_ntug15, zu_ntug17, zu_ntug18, zu_ntug19, zu_ntug20, zu_ntug21, zu_ntug22, zu_ncon0, zu_ncon1, zu_ncon2, zu_ncon3, zu_ncon4, zu_ncon5, zu_ncon6, zu_nwin0, zu_nwin1, zu_nwin2, zu_nwin3, zu_nwin4, zu_nwin5, zu_ncode3, zu_nrule, zu_nstock, zu_nhold, zu_nknown, zu_nord, zu_nrep, zu_ncla, zu_ntou, zu_ncel]
theorem W_t (D D' L p r2 r3 s4 : Nat) (hp : p < 4) (hD : 87 ≤ D) (hD' : D' + 1 ≤ D) (T : Nat → Nat) (n : Nat) (x : zLx) (be N j : Nat) (hk : zTk T n x) {ws : List (Int32 × Int32)} {G1 : List zUn} {c1 : Nat} {x2 x5 : zLx} (h1 : zEt 84 L p r2 r3 s4 T n 24 [.ref 190, .int 0, zmk, zmk] x 0 0 ws x2) (h2 : zAt D' L p r2 r3 s4 T n 32 [.ref 190] x2 be (N + 1) (j + ws.length) G1 c1 x5) (hroom : x2.1 + (G1.length + zwc G1) + 2 ≤ x5.1) : zIt D L p r2 r3 s4 T n 34 [.ref 190, zmk, zmk] x be N j ((ws, (13, nI j, nI (j + ws.length), nI (N + 1 + G1.length + 1)), (13, nI (N + 1 + G1.length + 1 + (j + ws.length + zwc G1)))) :: G1 ++ [(([] : List (Int32 × Int32)), ((14 : Int32), nI N, (0 : Int32), (0 : Int32)), ((15 : Int32), nI (N + j)))]) c1 x5 := by
  obtain ⟨a1, a2, a3, a4⟩ := h1
  obtain ⟨b1, b2, b3, b4⟩ := h2
  have hn5 := b3.1
  have hn6 := b3.2.1
  refine ⟨by simp only [List.length_cons, List.length_nil, List.length_append, zwc, zwc_app]; omega, by omega, b3, ?_⟩
  intro e he C t h h6 h7 h8 h9 hU hUx
  obtain ⟨d, rfl⟩ : ∃ d, e = d + 87 := ⟨e - 87, by omega⟩
  have h120 := h.1.2.1
  have hn := hk.2.1
  obtain ⟨C1, t1, k1⟩ := a4 (d + 86) (by omega) C (N + j) h h7 h8 hU (by omega)
  have e1 := zCa_un hp k1 h9 (13, nI j, nI (j + ws.length), nI (N + 1 + G1.length + 1)) 13 0
  have t2 := C23 (d + 85) L p r2 r3 s4 hp C1 (U := N + j + ws.length) (by have := a3.1; have := a3.2.1; omega) k1.2.2.2.1 13 0
  obtain ⟨C2, hC2⟩ : ∃ C2, C2 = zem p C1 (N + j + ws.length) 13 0 := ⟨_, rfl⟩
  rw [← hC2] at e1 t2
  have u1 : C2 0 0 (14 + p) = nI (N + 1 + (j + ws.length)) := by
    rw [e1.2.2.2.2.1]
    congr 1
    simp only [List.length_cons, List.length_nil, zwc]
    omega
  have q6 : C2 390 0 6 = nI be := by rw [e1.2.2.1 6 (by decide) (by decide) (by decide) (by decide)]; exact h6
  have q7 : C2 390 0 7 = nI 0 := by rw [e1.2.2.1 7 (by decide) (by decide) (by decide) (by decide)]; exact h7
  have q8 : C2 390 0 8 = nI 0 := by rw [e1.2.2.1 8 (by decide) (by decide) (by decide) (by decide)]; exact h8
  obtain ⟨C3, t3, e2⟩ := b4 (d + 86) (by omega) C2 t e1.1 q6 q7 q8 e1.2.2.2.1 u1 (by omega)
  have e3 : zCa p T n (N + j) t c1 C C3 ((ws, (13, nI j, nI (j + ws.length), nI (N + 1 + G1.length + 1)), (13, 0)) :: G1) x5 := by
    have := zCa_t e1 (show zCa p T n (N + j + (([(ws, (13, nI j, nI (j + ws.length), nI (N + 1 + G1.length + 1)), (13, 0))] : List zUn).length + zwc [(ws, (13, nI j, nI (j + ws.length), nI (N + 1 + G1.length + 1)), (13, 0))])) (t + 0) c1 C2 C3 G1 x5 from by
      rw [show N + j + (([(ws, (13, nI j, nI (j + ws.length), nI (N + 1 + G1.length + 1)), (13, 0))] : List zUn).length + zwc [(ws, (13, nI j, nI (j + ws.length), nI (N + 1 + G1.length + 1)), (13, 0))]) = N + 1 + (j + ws.length) by simp only [List.length_cons, List.length_nil, zwc]; omega]
      exact e2)
    rw [Nat.zero_add] at this
    exact this
  have u3 : C3 0 0 (14 + p) = nI (N + j + (((ws, (13, nI j, nI (j + ws.length), nI (N + 1 + G1.length + 1)), (13, 0)) :: G1).length + zwc ((ws, (13, nI j, nI (j + ws.length), nI (N + 1 + G1.length + 1)), (13, 0)) :: G1))) := e3.2.2.2.2.1
  have hz : N + j + (((ws, (13, nI j, nI (j + ws.length), nI (N + 1 + G1.length + 1)), (13, 0)) :: G1).length + zwc ((ws, (13, nI j, nI (j + ws.length), nI (N + 1 + G1.length + 1)), (13, 0)) :: G1)) = N + 1 + G1.length + (j + ws.length + zwc G1) := by
    simp only [List.length_cons, List.length_nil, List.length_append, zwc, zwc_app]
    omega
  have e4 := zCa_un hp (zCk_0 (U := N + j + (((ws, (13, nI j, nI (j + ws.length), nI (N + 1 + G1.length + 1)), (13, 0)) :: G1).length + zwc ((ws, (13, nI j, nI (j + ws.length), nI (N + 1 + G1.length + 1)), (13, 0)) :: G1))) e3.1 u3) e3.2.2.2.1 (14, nI N, 0, 0) 15 (nI (N + j))
  rw [List.length_nil, Nat.add_zero (N + j + (((ws, (13, nI j, nI (j + ws.length), nI (N + 1 + G1.length + 1)), (13, 0)) :: G1).length + zwc ((ws, (13, nI j, nI (j + ws.length), nI (N + 1 + G1.length + 1)), (13, 0)) :: G1)))] at e4
  have e5 := zCa_t e3 e4
  rw [Nat.add_zero c1] at e5
  have t4 := C23 (d + 85) L p r2 r3 s4 hp C3 (U := N + j + (((ws, (13, nI j, nI (j + ws.length), nI (N + 1 + G1.length + 1)), (13, 0)) :: G1).length + zwc ((ws, (13, nI j, nI (j + ws.length), nI (N + 1 + G1.length + 1)), (13, 0)) :: G1))) (by rw [hz]; omega) u3 15 (nI (N + j))
  obtain ⟨C4, hC4⟩ : ∃ C4, C4 = zem p C3 (N + j + (((ws, (13, nI j, nI (j + ws.length), nI (N + 1 + G1.length + 1)), (13, 0)) :: G1).length + zwc ((ws, (13, nI j, nI (j + ws.length), nI (N + 1 + G1.length + 1)), (13, 0)) :: G1))) 15 (nI (N + j)) := ⟨_, rfl⟩
  rw [← hC4] at e5 t4
  have u4 : C4 0 0 (14 + p) = nI (N + 1 + G1.length + 1 + (j + ws.length + zwc G1)) := by
    rw [e5.2.2.2.2.1]
    congr 1
    simp only [List.length_cons, List.length_nil, List.length_append, zwc, zwc_app]
    omega
  have e6 := zCa_pt hp (Ga := []) (row := N + j + ws.length) e5 (by simp only [List.length_nil, zwc]; omega) (nI (N + 1 + G1.length + 1 + (j + ws.length + zwc G1)))
  have t5 := C33 (d + 85) L p r2 r3 s4 hp C4 (row := N + j + ws.length) (U := N + 1 + G1.length + 1 + (j + ws.length + zwc G1)) (by omega) (by omega) u4
  have t0 := T43c (d + 86) L 184 (85 + 2 * p) r2 r3 s4 C hp
  rw [hU] at t0
  refine ⟨_, ?_, e6⟩
  simp +decide (disch := omega) only [e34_0, e34_7, e34_13, e34_18, e34_25, e34_30, e34_35, e34_42, e34_48, t0, t1, t2, t3, t4, t5, zpre, ite_self, zs1, zs2, zs3, zI_eqb, and_self, not_true_eq_false, if_true, if_false, ite_true, ite_false, not_false_eq_true, zBP, zBZ, zisO, zisA, zlen, decide_true, decide_false, Bool.and_self, Bool.and_true, Bool.true_and, cond_true, cond_false, zBG, zBR, zBU, zBV, zinb_n, zix_n, zlA, zlB, zlM, zlN, zlX, zlI, nI_add, Nat.add_eq_zero_iff, false_and, and_false, and_true, true_and, true_or, or_true, false_or, or_false, zbool_i, zb0, zb1, zshp_0, zcs_eq, zcs_n, zcs_cs, zup_g, zup_n, zp2_sun, zp2_rock, zp2_tug, zp2_contract, zp2_window, zp2_code, zp2_rbody, zp2_rstock, zp2_tfree, zp2_thold, zp2_tknown, zp2_ccells, zsh2_sun, zsh2_rock, zsh2_body, zsh2_stock, zsh2_tug, zsh2_free, zsh2_hold, zsh2_known, zsh2_contract, zsh2_window, zsh2_code, zsh2_cells, zg_nsun0, zg_nsun1, zg_nsun2, zg_nrock0, zg_nrock1, zg_nrock2, zg_nrock3, zg_nrock4, zg_nrock5, zg_nrock6, zg_nrock7, zg_nrock8, zg_nrock9, zg_nrock10, zg_nrock11, zg_nrock12, zg_nrock13, zg_nrock14, zg_ntug0, zg_ntug1, zg_ntug2, zg_ntug3, zg_ntug4, zg_ntug5, zg_ntug6, zg_ntug7, zg_ntug8, zg_ntug9, zg_ntug10, zg_ntug11, zg_ntug12, zg_ntug13, zg_ntug14, zg_ntug15, zg_ntug17, zg_ntug18, zg_ntug19, zg_ntug20, zg_ntug21, zg_ntug22, zg_ncon0, zg_ncon1, zg_ncon2, zg_ncon3, zg_ncon4, zg_ncon5, zg_ncon6, zg_nwin0, zg_nwin1, zg_nwin2, zg_nwin3, zg_nwin4, zg_nwin5, zg_ncode0, zg_ncode1, zg_ncode3, zg_nrule, zg_nstock, zg_nhold, zg_nknown, zg_nord, zg_nrep, zg_ncla, zg_ntou, zg_ncel, zu_nsun0, zu_nsun1, zu_nsun2, zu_nrock0, zu_nrock1, zu_nrock2, zu_nrock3, zu_nrock4, zu_nrock5, zu_nrock6, zu_nrock7, zu_nrock8, zu_nrock9, zu_nrock10, zu_nrock11, zu_nrock12, zu_nrock13, zu_nrock14, zu_ntug0, zu_ntug1, zu_ntug2, zu_ntug3, zu_ntug4, zu_ntug5, zu_ntug6, zu_ntug7, zu_ntug8, zu_ntug9, zu_ntug10, zu_ntug11, zu_ntug12, zu_ntug13, zu_ntug14, zu_ntug15, zu_ntug17, zu_ntug18, zu_ntug19, zu_ntug20, zu_ntug21, zu_ntug22, zu_ncon0, zu_ncon1, zu_ncon2, zu_ncon3, zu_ncon4, zu_ncon5, zu_ncon6, zu_nwin0, zu_nwin1, zu_nwin2, zu_nwin3, zu_nwin4, zu_nwin5, zu_ncode3, zu_nrule, zu_nstock, zu_nhold, zu_nknown, zu_nord, zu_nrep, zu_ncla, zu_ntou, zu_ncel]

