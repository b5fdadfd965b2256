/-! THE PROGRAM: S in the class (2), printed by wip/gen/pub72.py -/
theorem zCa_t0 {p : Nat} {T : Nat → Nat} {n U t c1 c2 : Nat} {A B C : zCt} {G : List zUn} {x1 x2 : zLx} (h1 : zCa p T n U t c1 A B [] x1) (h2 : zCa p T n U (t + c1) c2 B C G x2) : zCa p T n U t (c1 + c2) A C G x2 := zCa_t (G1 := []) h1 h2
theorem zCa_e {p : Nat} {T : Nat → Nat} {n U t c : Nat} {A B C : zCt} {G : List zUn} {x1 x2 : zLx} (h1 : zCa p T n U t c A B G x1) (h2 : zCk p T n (U + (G.length + zwc G)) B C [] x2) : zCa p T n U t c A C G x2 := by
  have := zCa_t h1 (zCa_k h2 h1.2.2.2.1)
  rw [List.append_nil] at this
  exact this
theorem zEt_0 {D L p r2 r3 s4 : Nat} {T : Nat → Nat} {n : Nat} {x : zLx} {b s : Nat} {ws : List (Int32 × Int32)} {x' : zLx} (h : zEt D L p r2 r3 s4 T n 24 [.ref 190, .int (nI 0), zmk, zmk] x b s ws x') : zEt D L p r2 r3 s4 T n 24 [.ref 190, .int 0, zmk, zmk] x b s ws x' := h
/-- no S begins here -/
theorem A_none (D L p r2 r3 s4 : Nat) (hp : p < 4) (T : Nat → Nat) (n : Nat) (x : zLx) (be N j : Nat) (hk : zTk T n x) (hD : 4 ≤ D) (hV : ∀ w, w < 14 → zV T x ≠ zWK w) : zAf D L p r2 r3 s4 T n 18 [.ref 190, zmk] x be N j x := by
  intro e he C t h h6 h7 h8 h9 hU hUx
  obtain ⟨d, rfl⟩ : ∃ d, e = d + 4 := ⟨e - 4, by omega⟩
  have t1 := C19 (d + 1) L p r2 r3 s4 C h hk zmk
  refine ⟨C, ?_, h.2.2.1, zFC_r _ _⟩
  rcases zfj_14 (zV T x) with q | ⟨w, w1, w2, w3⟩
  · rw [q] at t1
    simp +decide (disch := omega) only [e18_0, e18_4, e18_15, t1, zpre, ite_self, zs1, zs2, zs3, zI_eqb, and_self, not_true_eq_false, if_true, if_false, ite_true, ite_false, not_false_eq_true, zBP, zBZ, zisO, zisA, zlen, decide_true, decide_false, Bool.and_self, Bool.and_true, Bool.true_and, cond_true, cond_false, zBG, zBR, zBU, zBV, zinb_n, zix_n, zlA, zlB, zlM, zlN, zlX, zlI, nI_add, Nat.add_eq_zero_iff, false_and, and_false, and_true, true_and, true_or, or_true, false_or, or_false, zbool_i, zb0, zb1, zshp_0, zcs_eq, zcs_n, zcs_cs, zup_g, zup_n, zp2_sun, zp2_rock, zp2_tug, zp2_contract, zp2_window, zp2_code, zp2_rbody, zp2_rstock, zp2_tfree, zp2_thold, zp2_tknown, zp2_ccells, zsh2_sun, zsh2_rock, zsh2_body, zsh2_stock, zsh2_tug, zsh2_free, zsh2_hold, zsh2_known, zsh2_contract, zsh2_window, zsh2_code, zsh2_cells, zg_nsun0, zg_nsun1, zg_nsun2, zg_nrock0, zg_nrock1, zg_nrock2, zg_nrock3, zg_nrock4, zg_nrock5, zg_nrock6, zg_nrock7, zg_nrock8, zg_nrock9, zg_nrock10, zg_nrock11, zg_nrock12, zg_nrock13, zg_nrock14, zg_ntug0, zg_ntug1, zg_ntug2, zg_ntug3, zg_ntug4, zg_ntug5, zg_ntug6, zg_ntug7, zg_ntug8, zg_ntug9, zg_ntug10, zg_ntug11, zg_ntug12, zg_ntug13, zg_ntug14, zg_ntug15, zg_ntug17, zg_ntug18, zg_ntug19, zg_ntug20, zg_ntug21, zg_ntug22, zg_ncon0, zg_ncon1, zg_ncon2, zg_ncon3, zg_ncon4, zg_ncon5, zg_ncon6, zg_nwin0, zg_nwin1, zg_nwin2, zg_nwin3, zg_nwin4, zg_nwin5, zg_ncode0, zg_ncode1, zg_ncode3, zg_nrule, zg_nstock, zg_nhold, zg_nknown, zg_nord, zg_nrep, zg_ncla, zg_ntou, zg_ncel, zu_nsun0, zu_nsun1, zu_nsun2, zu_nrock0, zu_nrock1, zu_nrock2, zu_nrock3, zu_nrock4, zu_nrock5, zu_nrock6, zu_nrock7, zu_nrock8, zu_nrock9, zu_nrock10, zu_nrock11, zu_nrock12, zu_nrock13, zu_nrock14, zu_ntug0, zu_ntug1, zu_ntug2, zu_ntug3, zu_ntug4, zu_ntug5, zu_ntug6, zu_ntug7, zu_ntug8, zu_ntug9, zu_ntug10, zu_ntug11, zu_ntug12, zu_ntug13, zu_ntug14, zu_ntug15, zu_ntug17, zu_ntug18, zu_ntug19, zu_ntug20, zu_ntug21, zu_ntug22, zu_ncon0, zu_ncon1, zu_ncon2, zu_ncon3, zu_ncon4, zu_ncon5, zu_ncon6, zu_nwin0, zu_nwin1, zu_nwin2, zu_nwin3, zu_nwin4, zu_nwin5, zu_ncode3, zu_nrule, zu_nstock, zu_nhold, zu_nknown, zu_nord, zu_nrep, zu_ncla, zu_ntou, zu_ncel]
  · obtain rfl : w = 14 := by
      by_cases e : w = 14
      · exact e
      · exact absurd w3 (hV w (by omega))
    rw [w2, show nI 14 = 14 from rfl] at t1
    simp +decide (disch := omega) only [e18_0, e18_4, e18_9, e18_15, t1, zpre, ite_self, zs1, zs2, zs3, zI_eqb, and_self, not_true_eq_false, if_true, if_false, ite_true, ite_false, not_false_eq_true, zBP, zBZ, zisO, zisA, zlen, decide_true, decide_false, Bool.and_self, Bool.and_true, Bool.true_and, cond_true, cond_false, zBG, zBR, zBU, zBV, zinb_n, zix_n, zlA, zlB, zlM, zlN, zlX, zlI, nI_add, Nat.add_eq_zero_iff, false_and, and_false, and_true, true_and, true_or, or_true, false_or, or_false, zbool_i, zb0, zb1, zshp_0, zcs_eq, zcs_n, zcs_cs, zup_g, zup_n, zp2_sun, zp2_rock, zp2_tug, zp2_contract, zp2_window, zp2_code, zp2_rbody, zp2_rstock, zp2_tfree, zp2_thold, zp2_tknown, zp2_ccells, zsh2_sun, zsh2_rock, zsh2_body, zsh2_stock, zsh2_tug, zsh2_free, zsh2_hold, zsh2_known, zsh2_contract, zsh2_window, zsh2_code, zsh2_cells, zg_nsun0, zg_nsun1, zg_nsun2, zg_nrock0, zg_nrock1, zg_nrock2, zg_nrock3, zg_nrock4, zg_nrock5, zg_nrock6, zg_nrock7, zg_nrock8, zg_nrock9, zg_nrock10, zg_nrock11, zg_nrock12, zg_nrock13, zg_nrock14, zg_ntug0, zg_ntug1, zg_ntug2, zg_ntug3, zg_ntug4, zg_ntug5, zg_ntug6, zg_ntug7, zg_ntug8, zg_ntug9, zg_ntug10, zg_ntug11, zg_ntug12, zg_ntug13, zg_ntug14, zg_ntug15, zg_ntug17, zg_ntug18, zg_ntug19, zg_ntug20, zg_ntug21, zg_ntug22, zg_ncon0, zg_ncon1, zg_ncon2, zg_ncon3, zg_ncon4, zg_ncon5, zg_ncon6, zg_nwin0, zg_nwin1, zg_nwin2, zg_nwin3, zg_nwin4, zg_nwin5, zg_ncode0, zg_ncode1, zg_ncode3, zg_nrule, zg_nstock, zg_nhold, zg_nknown, zg_nord, zg_nrep, zg_ncla, zg_ntou, zg_ncel, zu_nsun0, zu_nsun1, zu_nsun2, zu_nrock0, zu_nrock1, zu_nrock2, zu_nrock3, zu_nrock4, zu_nrock5, zu_nrock6, zu_nrock7, zu_nrock8, zu_nrock9, zu_nrock10, zu_nrock11, zu_nrock12, zu_nrock13, zu_nrock14, zu_ntug0, zu_ntug1, zu_ntug2, zu_ntug3, zu_ntug4, zu_ntug5, zu_ntug6, zu_ntug7, zu_ntug8, zu_ntug9, zu_ntug10, zu_ntug11, zu_ntug12, zu_ntug13, zu_ntug14, zu_ntug15, zu_ntug17, zu_ntug18, zu_ntug19, zu_ntug20, zu_ntug21, zu_ntug22, zu_ncon0, zu_ncon1, zu_ncon2, zu_ncon3, zu_ncon4, zu_ncon5, zu_ncon6, zu_nwin0, zu_nwin1, zu_nwin2, zu_nwin3, zu_nwin4, zu_nwin5, zu_ncode3, zu_nrule, zu_nstock, zu_nhold, zu_nknown, zu_nord, zu_nrep, zu_ncla, zu_ntou, zu_ncel]
theorem A_simple (D L p r2 r3 s4 : Nat) (hp : p < 4) (T : Nat → Nat) (n : Nat) (x : zLx) (be N j : Nat) (hk : zTk T n x) (hD : 4 ≤ D) (w : Nat) (hw1 : 2 ≤ w) (hw2 : w ≤ 10) (hV : zV T x = zWK w) : zAt D L p r2 r3 s4 T n 18 [.ref 190, zmk] x be N j [([], (nI (w + 1), 0, 0, 0), (nI w, 0))] 1 (zadv T n x) := by
  have hkind := zV_1 (by omega) hV
  have ha := zadv_k T n x hk.2.1
  have hlt := hk.2.2.2.2.1 (by rw [hkind]; decide)
  refine ⟨by simp only [List.length_cons, List.length_nil, zwc]; omega, by omega, ha.1, ?_⟩
  intro e he C t h h6 h7 h8 h9 hU hUx
  obtain ⟨d, rfl⟩ : ∃ d, e = d + 4 := ⟨e - 4, by omega⟩
  have h120 := h.1.2.1
  have hn := hk.2.1
  obtain ⟨F, t1, f2, f9, f3⟩ := C18_pre d L p r2 r3 s4 C h hk (show w < 14 by omega) hV h9
  have e0 := zCa_pre hp f2 f9 f3 hU
  have hU1 : (zcs C 390 F) 0 0 (14 + p) = nI (N + j) := by rw [zcs_n _ _ (by decide)]; exact hU
  have e1 := zCa_un hp (zCk_0 f2 hU1) (show (zcs C 390 F) 390 0 9 = nI (t + 1) by rw [zcs_eq]; exact f9) (nI (w + 1), 0, 0, 0) (nI w) 0
  rw [List.length_nil, Nat.add_zero (N + j)] at e1
  have t2 := C23 (d + 2) L p r2 r3 s4 hp (zcs C 390 F) (U := N + j) (by omega) hU1 (nI w) 0
  have hsw : zswT 32 (124) (0) (13) #[72, 77, 124, 124, 124, 124, 124, 124, 124, 124, 124, 104, 114, 119]  (nI w) = 156 := by
    rcases (show w = 2 ∨ w = 3 ∨ w = 4 ∨ w = 5 ∨ w = 6 ∨ w = 7 ∨ w = 8 ∨ w = 9 ∨ w = 10 by omega) with rfl | rfl | rfl | rfl | rfl | rfl | rfl | rfl | rfl <;> decide
  refine ⟨_, t1.trans ?_, zCa_t0 e0 e1⟩
  simp +decide (disch := omega) only [e18_31, hsw, e18_156, e18_162, t2, zpre, ite_self, zs1, zs2, zs3, zI_eqb, and_self, not_true_eq_false, if_true, if_false, ite_true, ite_false, not_false_eq_true, zBP, zBZ, zisO, zisA, zlen, decide_true, decide_false, Bool.and_self, Bool.and_true, Bool.true_and, cond_true, cond_false, zBG, zBR, zBU, zBV, zinb_n, zix_n, zlA, zlB, zlM, zlN, zlX, zlI, nI_add, Nat.add_eq_zero_iff, false_and, and_false, and_true, true_and, true_or, or_true, false_or, or_false, zbool_i, zb0, zb1, zshp_0, zcs_eq, zcs_n, zcs_cs, zup_g, zup_n, zp2_sun, zp2_rock, zp2_tug, zp2_contract, zp2_window, zp2_code, zp2_rbody, zp2_rstock, zp2_tfree, zp2_thold, zp2_tknown, zp2_ccells, zsh2_sun, zsh2_rock, zsh2_body, zsh2_stock, zsh2_tug, zsh2_free, zsh2_hold, zsh2_known, zsh2_contract, zsh2_window, zsh2_code, zsh2_cells, zg_nsun0, zg_nsun1, zg_nsun2, zg_nrock0, zg_nrock1, zg_nrock2, zg_nrock3, zg_nrock4, zg_nrock5, zg_nrock6, zg_nrock7, zg_nrock8, zg_nrock9, zg_nrock10, zg_nrock11, zg_nrock12, zg_nrock13, zg_nrock14, zg_ntug0, zg_ntug1, zg_ntug2, zg_ntug3, zg_ntug4, zg_ntug5, zg_ntug6, zg_ntug7, zg_ntug8, zg_ntug9, zg_ntug10, zg_ntug11, zg_ntug12, zg_ntug13, zg_ntug14, zg_ntug15, zg_ntug17, zg_ntug18, zg_ntug19, zg_ntug20, zg_ntug21, zg_ntug22, zg_ncon0, zg_ncon1, zg_ncon2, zg_ncon3, zg_ncon4, zg_ncon5, zg_ncon6, zg_nwin0, zg_nwin1, zg_nwin2, zg_nwin3, zg_nwin4, zg_nwin5, zg_ncode0, zg_ncode1, zg_ncode3, zg_nrule, zg_nstock, zg_nhold, zg_nknown, zg_nord, zg_nrep, zg_ncla, zg_ntou, zg_ncel, zu_nsun0, zu_nsun1, zu_nsun2, zu_nrock0, zu_nrock1, zu_nrock2, zu_nrock3, zu_nrock4, zu_nrock5, zu_nrock6, zu_nrock7, zu_nrock8, zu_nrock9, zu_nrock10, zu_nrock11, zu_nrock12, zu_nrock13, zu_nrock14, zu_ntug0, zu_ntug1, zu_ntug2, zu_ntug3, zu_ntug4, zu_ntug5, zu_ntug6, zu_ntug7, zu_ntug8, zu_ntug9, zu_ntug10, zu_ntug11, zu_ntug12, zu_ntug13, zu_ntug14, zu_ntug15, zu_ntug17, zu_ntug18, zu_ntug19, zu_ntug20, zu_ntug21, zu_ntug22, zu_ncon0, zu_ncon1, zu_ncon2, zu_ncon3, zu_ncon4, zu_ncon5, zu_ncon6, zu_nwin0, zu_nwin1, zu_nwin2, zu_nwin3, zu_nwin4, zu_nwin5, zu_ncode3, zu_nrule, zu_nstock, zu_nhold, zu_nknown, zu_nord, zu_nrep, zu_ncla, zu_ntou, zu_ncel]
theorem A_aimt (D L p r2 r3 s4 : Nat) (hp : p < 4) (T : Nat → Nat) (n : Nat) (x : zLx) (be N j : Nat) (hk : zTk T n x) (hD : 6 ≤ D) (hV : zV T x = zWK 0) (hk2 : (zadv T n x).2.2 = 2) : zAt D L p r2 r3 s4 T n 18 [.ref 190, zmk] x be N j [([], (1, zvl T ((zadv T n x).2.1 - (zadv T n x).1) (zadv T n x).1 0, 0, 0), (0, zvl T ((zadv T n x).2.1 - (zadv T n x).1) (zadv T n x).1 0))] 1 (zadv T n (zadv T n x)) := by
  have hkind := zV_1 (by omega) hV
  have ha := zadv_k T n x hk.2.1
  have hlt := hk.2.2.2.2.1 (by rw [hkind]; decide)
  obtain ⟨x1, hx1⟩ : ∃ x1, x1 = zadv T n x := ⟨_, rfl⟩
  rw [← hx1] at ha hk2 ⊢
  have ha1 := zadv_k T n x1 ha.1.2.1
  have hlt1 := ha.1.2.2.2.2.1 (by rw [hk2]; decide)
  refine ⟨by simp only [List.length_cons, List.length_nil, zwc]; omega, by omega, ha1.1, ?_⟩
  intro e he C t h h6 h7 h8 h9 hU hUx
  obtain ⟨d, rfl⟩ : ∃ d, e = d + 6 := ⟨e - 6, by omega⟩
  have h120 := h.1.2.1
  have hn := hk.2.1
  obtain ⟨F, t1, f2, f9, f3⟩ := C18_pre (d + 2) L p r2 r3 s4 C h hk (show 0 < 14 by omega) hV h9
  rw [← hx1] at f2
  have e0 := zCa_pre hp f2 f9 f3 hU
  have hU1 : (zcs C 390 F) 0 0 (14 + p) = nI (N + j) := by rw [zcs_n _ _ (by decide)]; exact hU
  obtain ⟨v, hv⟩ : ∃ v, v = zvl T (x1.2.1 - x1.1) x1.1 0 := ⟨_, rfl⟩
  have t3 := C22 (d + 3) L p r2 r3 s4 _ f2 ha.1
  rw [← hv] at t3 ⊢
  have e1 := zCa_un hp (zCk_0 f2 hU1) (show (zcs C 390 F) 390 0 9 = nI (t + 1) by rw [zcs_eq]; exact f9) (1, v, 0, 0) 0 v
  rw [List.length_nil, Nat.add_zero (N + j)] at e1
  have t2 := C23 (d + 3) L p r2 r3 s4 hp (zcs C 390 F) (U := N + j) (by have := ha.1.2.1; omega) hU1 0 v
  obtain ⟨G, t4, g2, g3⟩ := C14 (d + 2) L p r2 r3 s4 _ e1.1 ha.1.2.1 (by rw [hk2]; decide)
  have e2 := zCa_e e1 (zCk_go hp g2 g3 e1.2.2.2.2.1)
  have hsw : zswT 32 (124) (0) (13) #[72, 77, 124, 124, 124, 124, 124, 124, 124, 124, 124, 104, 114, 119]  (nI 0) = 104 := by decide
  have h3 : F 0 3 = 2 := by have := f2.2.1; rw [hk2, zcs_eq] at this; exact this
  refine ⟨_, t1.trans ?_, zCa_t0 e0 e2⟩
  simp +decide (disch := omega) only [e18_31, hsw, e18_104, e18_108, e21_0, e21_8, e21_10, e21_16, e21_19, e21_24, h3, t3, t2, t4, zpre, ite_self, zs1, zs2, zs3, zI_eqb, and_self, not_true_eq_false, if_true, if_false, ite_true, ite_false, not_false_eq_true, zBP, zBZ, zisO, zisA, zlen, decide_true, decide_false, Bool.and_self, Bool.and_true, Bool.true_and, cond_true, cond_false, zBG, zBR, zBU, zBV, zinb_n, zix_n, zlA, zlB, zlM, zlN, zlX, zlI, nI_add, Nat.add_eq_zero_iff, false_and, and_false, and_true, true_and, true_or, or_true, false_or, or_false, zbool_i, zb0, zb1, zshp_0, zcs_eq, zcs_n, zcs_cs, zup_g, zup_n, zp2_sun, zp2_rock, zp2_tug, zp2_contract, zp2_window, zp2_code, zp2_rbody, zp2_rstock, zp2_tfree, zp2_thold, zp2_tknown, zp2_ccells, zsh2_sun, zsh2_rock, zsh2_body, zsh2_stock, zsh2_tug, zsh2_free, zsh2_hold, zsh2_known, zsh2_contract, zsh2_window, zsh2_code, zsh2_cells, zg_nsun0, zg_nsun1, zg_nsun2, zg_nrock0, zg_nrock1, zg_nrock2, zg_nrock3, zg_nrock4, zg_nrock5, zg_nrock6, zg_nrock7, zg_nrock8, zg_nrock9, zg_nrock10, zg_nrock11, zg_nrock12, zg_nrock13, zg_nrock14, zg_ntug0, zg_ntug1, zg_ntug2, zg_ntug3, zg_ntug4, zg_ntug5, zg_ntug6, zg_ntug7, zg_ntug8, zg_ntug9, zg_ntug10, zg_ntug11, zg_ntug12, zg_ntug13, zg_ntug14, zg_ntug15, zg_ntug17, zg_ntug18, zg_ntug19, zg_ntug20, zg_ntug21, zg_ntug22, zg_ncon0, zg_ncon1, zg_ncon2, zg_ncon3, zg_ncon4, zg_ncon5, zg_ncon6, zg_nwin0, zg_nwin1, zg_nwin2, zg_nwin3, zg_nwin4, zg_nwin5, zg_ncode0, zg_ncode1, zg_ncode3, zg_nrule, zg_nstock, zg_nhold, zg_nknown, zg_nord, zg_nrep, zg_ncla, zg_ntou, zg_ncel, zu_nsun0, zu_nsun1, zu_nsun2, zu_nrock0, zu_nrock1, zu_nrock2, zu_nrock3, zu_nrock4, zu_nrock5, zu_nrock6, zu_nrock7, zu_nrock8, zu_nrock9, zu_nrock10, zu_nrock11, zu_nrock12, zu_nrock13, zu_nrock14, zu_ntug0, zu_ntug1, zu_ntug2, zu_ntug3, zu_ntug4, zu_ntug5, zu_ntug6, zu_ntug7, zu_ntug8, zu_ntug9, zu_ntug10, zu_ntug11, zu_ntug12, zu_ntug13, zu_ntug14, zu_ntug15, zu_ntug17, zu_ntug18, zu_ntug19, zu_ntug20, zu_ntug21, zu_ntug22, zu_ncon0, zu_ncon1, zu_ncon2, zu_ncon3, zu_ncon4, zu_ncon5, zu_ncon6, zu_nwin0, zu_nwin1, zu_nwin2, zu_nwin3, zu_nwin4, zu_nwin5, zu_ncode3, zu_nrule, zu_nstock, zu_nhold, zu_nknown, zu_nord, zu_nrep, zu_ncla, zu_ntou, zu_ncel]
theorem A_aimf (D L p r2 r3 s4 : Nat) (hp : p < 4) (T : Nat → Nat) (n : Nat) (x : zLx) (be N j : Nat) (hk : zTk T n x) (hD : 6 ≤ D) (hV : zV T x = zWK 0) (hk2 : (zadv T n x).2.2 ≠ 2) : zAf D L p r2 r3 s4 T n 18 [.ref 190, zmk] x be N j (zadv T n x) := by
  intro e he C t h h6 h7 h8 h9 hU hUx
  obtain ⟨d, rfl⟩ : ∃ d, e = d + 6 := ⟨e - 6, by omega⟩
  obtain ⟨F, t1, f2, f9, f3⟩ := C18_pre (d + 2) L p r2 r3 s4 C h hk (show 0 < 14 by omega) hV h9
  have hsw : zswT 32 (124) (0) (13) #[72, 77, 124, 124, 124, 124, 124, 124, 124, 124, 124, 104, 114, 119]  (nI 0) = 104 := by decide
  have h5k := (zadv_k T n x hk.2.1).1.2.2.1
  have h3 : ¬ F 0 3 = 2 := by
    have := f2.2.1
    rw [zcs_eq] at this
    rw [this]
    exact fun q => by have := (nI_eq (b := 2) (by omega) (by decide)).mp q; omega
  refine ⟨_, t1.trans ?_, f2.2.2.1, zFC_390 C F⟩
  simp +decide (disch := omega) only [e18_31, hsw, e18_104, e18_108, e21_0, e21_8, h3, zpre, ite_self, zs1, zs2, zs3, zI_eqb, and_self, not_true_eq_false, if_true, if_false, ite_true, ite_false, not_false_eq_true, zBP, zBZ, zisO, zisA, zlen, decide_true, decide_false, Bool.and_self, Bool.and_true, Bool.true_and, cond_true, cond_false, zBG, zBR, zBU, zBV, zinb_n, zix_n, zlA, zlB, zlM, zlN, zlX, zlI, nI_add, Nat.add_eq_zero_iff, false_and, and_false, and_true, true_and, true_or, or_true, false_or, or_false, zbool_i, zb0, zb1, zshp_0, zcs_eq, zcs_n, zcs_cs, zup_g, zup_n, zp2_sun, zp2_rock, zp2_tug, zp2_contract, zp2_window, zp2_code, zp2_rbody, zp2_rstock, zp2_tfree, zp2_thold, zp2_tknown, zp2_ccells, zsh2_sun, zsh2_rock, zsh2_body, zsh2_stock, zsh2_tug, zsh2_free, zsh2_hold, zsh2_known, zsh2_contract, zsh2_window, zsh2_code, zsh2_cells, zg_nsun0, zg_nsun1, zg_nsun2, zg_nrock0, zg_nrock1, zg_nrock2, zg_nrock3, zg_nrock4, zg_nrock5, zg_nrock6, zg_nrock7, zg_nrock8, zg_nrock9, zg_nrock10, zg_nrock11, zg_nrock12, zg_nrock13, zg_nrock14, zg_ntug0, zg_ntug1, zg_ntug2, zg_ntug3, zg_ntug4, zg_ntug5, zg_ntug6, zg_ntug7, zg_ntug8, zg_ntug9, zg_ntug10, zg_ntug11, zg_ntug12, zg_ntug13, zg_ntug14, zg_ntug15, zg_ntug17, zg_ntug18, zg_ntug19, zg_ntug20, zg_ntug21, zg_ntug22, zg_ncon0, zg_ncon1, zg_ncon2, zg_ncon3, zg_ncon4, zg_ncon5, zg_ncon6, zg_nwin0, zg_nwin1, zg_nwin2, zg_nwin3, zg_nwin4, zg_nwin5, zg_ncode0, zg_ncode1, zg_ncode3, zg_nrule, zg_nstock, zg_nhold, zg_nknown, zg_nord, zg_nrep, zg_ncla, zg_ntou, zg_ncel, zu_nsun0, zu_nsun1, zu_nsun2, zu_nrock0, zu_nrock1, zu_nrock2, zu_nrock3, zu_nrock4, zu_nrock5, zu_nrock6, zu_nrock7, zu_nrock8, zu_nrock9, zu_nrock10, zu_nrock11, zu_nrock12, zu_nrock13, zu_nrock14, zu_ntug0, zu_ntug1, zu_ntug2, zu_ntug3, zu_ntug4, zu_ntug5, zu_ntug6, zu_ntug7, zu_ntug8, zu_ntug9, zu_ntug10, zu_ntug11, zu_ntug12, zu_ntug13, zu_ntug14, zu_ntug15, zu_ntug17, zu_ntug18, zu_ntug19, zu_ntug20, zu_ntug21, zu_ntug22, zu_ncon0, zu_ncon1, zu_ncon2, zu_ncon3, zu_ncon4, zu_ncon5, zu_ncon6, zu_nwin0, zu_nwin1, zu_nwin2, zu_nwin3, zu_nwin4, zu_nwin5, zu_ncode3, zu_nrule, zu_nstock, zu_nhold, zu_nknown, zu_nord, zu_nrep, zu_ncla, zu_ntou, zu_ncel]

theorem A_untilt (D L p r2 r3 s4 : Nat) (hp : p < 4) (T : Nat → Nat) (n : Nat) (x : zLx) (be N j : Nat) (hk : zTk T n x) (hD : 86 ≤ D) (hV : zV T x = zWK 11) {ws : List (Int32 × Int32)} {x2 : zLx} (h1 : zEt 84 L p r2 r3 s4 T n 24 [.ref 190, .int 0, zmk, zmk] (zadv T n x) 0 0 ws x2) : zAt D L p r2 r3 s4 T n 18 [.ref 190, zmk] x be N j [(ws, (12, nI j, nI (j + ws.length), 0), (11, 0))] 1 x2 := by
  have hkind := zV_1 (by omega) hV
  have ha := zadv_k T n x hk.2.1
  have hlt := hk.2.2.2.2.1 (by rw [hkind]; decide)
  obtain ⟨a1, a2, a3, a4⟩ := h1
  refine ⟨by simp only [List.length_cons, List.length_nil, zwc]; omega, by omega, a3, ?_⟩
  intro e he C t h h6 h7 h8 h9 hU hUx
  obtain ⟨d, rfl⟩ : ∃ d, e = d + 86 := ⟨e - 86, by omega⟩
  have h120 := h.1.2.1
  have hn := hk.2.1
  obtain ⟨F, t1, f2, f9, f3⟩ := C18_pre (d + 82) L p r2 r3 s4 C h hk (show 11 < 14 by omega) hV h9
  have e0 := zCa_pre hp f2 f9 f3 hU
  have hU1 : (zcs C 390 F) 0 0 (14 + p) = nI (N + j) := by rw [zcs_n _ _ (by decide)]; exact hU
  have r6 : (zcs C 390 F) 390 0 6 = nI be := by rw [zcs_eq, f3 6 (by decide) (by decide) (by decide) (by decide)]; exact h6
  have r7 : (zcs C 390 F) 390 0 7 = nI 0 := by rw [zcs_eq, f3 7 (by decide) (by decide) (by decide) (by decide)]; exact h7
  have r8 : (zcs C 390 F) 390 0 8 = nI 0 := by rw [zcs_eq, f3 8 (by decide) (by decide) (by decide) (by decide)]; exact h8
  have r9 : (zcs C 390 F) 390 0 9 = nI (t + 1) := by rw [zcs_eq]; exact f9
  have hsw : zswT 32 (124) (0) (13) #[72, 77, 124, 124, 124, 124, 124, 124, 124, 124, 124, 104, 114, 119]  (nI 11) = 136 := by decide
  have hswl : zswT 32 (124) (0) (13) #[72, 77, 124, 124, 124, 124, 124, 124, 124, 124, 124, 104, 114, 119]  11 = 136 := by decide
  obtain ⟨C2, t2, e1⟩ := a4 (d + 85) (by omega) _ (N + j) f2 r7 r8 hU1 (by omega)
  have e2 := zCa_un hp e1 r9 (12, nI j, nI (j + ws.length), 0) 11 0
  have t3 := C23 (d + 84) L p r2 r3 s4 hp C2 (U := N + j + ws.length) (by have := a3.1; have := a3.2.1; omega) e1.2.2.2.1 11 0
  refine ⟨_, t1.trans ?_, zCa_t0 e0 e2⟩
  simp +decide (disch := omega) only [e18_31, hsw, hswl, e18_136, e18_141, e18_156, e18_162, show nI 11 = 11 from rfl, t2, t3, zpre, ite_self, zs1, zs2, zs3, zI_eqb, and_self, not_true_eq_false, if_true, if_false, ite_true, ite_false, not_false_eq_true, zBP, zBZ, zisO, zisA, zlen, decide_true, decide_false, Bool.and_self, Bool.and_true, Bool.true_and, cond_true, cond_false, zBG, zBR, zBU, zBV, zinb_n, zix_n, zlA, zlB, zlM, zlN, zlX, zlI, nI_add, Nat.add_eq_zero_iff, false_and, and_false, and_true, true_and, true_or, or_true, false_or, or_false, zbool_i, zb0, zb1, zshp_0, zcs_eq, zcs_n, zcs_cs, zup_g, zup_n, zp2_sun, zp2_rock, zp2_tug, zp2_contract, zp2_window, zp2_code, zp2_rbody, zp2_rstock, zp2_tfree, zp2_thold, zp2_tknown, zp2_ccells, zsh2_sun, zsh2_rock, zsh2_body, zsh2_stock, zsh2_tug, zsh2_free, zsh2_hold, zsh2_known, zsh2_contract, zsh2_window, zsh2_code, zsh2_cells, zg_nsun0, zg_nsun1, zg_nsun2, zg_nrock0, zg_nrock1, zg_nrock2, zg_nrock3, zg_nrock4, zg_nrock5, zg_nrock6, zg_nrock7, zg_nrock8, zg_nrock9, zg_nrock10, zg_nrock11, zg_nrock12, zg_nrock13, zg_nrock14, zg_ntug0, zg_ntug1, zg_ntug2, zg_ntug3, zg_ntug4, zg_ntug5, zg_ntug6, zg_ntug7, zg_ntug8, zg_ntug9, zg_ntug10, zg_ntug11, zg_ntug12, zg_ntug13, zg_ntug14, zg_ntug15, zg_ntug17, zg_ntug18, zg_ntug19, zg_ntug20, zg_ntug21, zg_ntug22, zg_ncon0, zg_ncon1, zg_ncon2, zg_ncon3, zg_ncon4, zg_ncon5, zg_ncon6, zg_nwin0, zg_nwin1, zg_nwin2, zg_nwin3, zg_nwin4, zg_nwin5, zg_ncode0, zg_ncode1, zg_ncode3, zg_nrule, zg_nstock, zg_nhold, zg_nknown, zg_nord, zg_nrep, zg_ncla, zg_ntou, zg_ncel, zu_nsun0, zu_nsun1, zu_nsun2, zu_nrock0, zu_nrock1, zu_nrock2, zu_nrock3, zu_nrock4, zu_nrock5, zu_nrock6, zu_nrock7, zu_nrock8, zu_nrock9, zu_nrock10, zu_nrock11, zu_nrock12, zu_nrock13, zu_nrock14, zu_ntug0, zu_ntug1, zu_ntug2, zu_ntug3, zu_ntug4, zu_ntug5, zu_ntug6, zu_ntug7, zu_ntug8, zu_ntug9, zu_ntug10, zu_ntug11, zu_ntug12, zu_ntug13, zu_ntug14, zu_ntug15, zu_ntug17, zu_ntug18, zu_ntug19, zu_ntug20, zu_ntug21, zu_ntug22, zu_ncon0, zu_ncon1, zu_ncon2, zu_ncon3, zu_ncon4, zu_ncon5, zu_ncon6, zu_nwin0, zu_nwin1, zu_nwin2, zu_nwin3, zu_nwin4, zu_nwin5, zu_ncode3, zu_nrule, zu_nstock, zu_nhold, zu_nknown, zu_nord, zu_nrep, zu_ncla, zu_ntou, zu_ncel]
theorem A_untilf (D L p r2 r3 s4 : Nat) (hp : p < 4) (T : Nat → Nat) (n : Nat) (x : zLx) (be N j : Nat) (hk : zTk T n x) (hD : 86 ≤ D) (hV : zV T x = zWK 11) {x2 : zLx} (h1 : zEf 84 L p r2 r3 s4 T n 24 [.ref 190, .int 0, zmk, zmk] (zadv T n x) 0 0 x2) : zAf D L p r2 r3 s4 T n 18 [.ref 190, zmk] x be N j x2 := by
  have hkind := zV_1 (by omega) hV
  have ha := zadv_k T n x hk.2.1
  have hlt := hk.2.2.2.2.1 (by rw [hkind]; decide)
  intro e he C t h h6 h7 h8 h9 hU hUx
  obtain ⟨d, rfl⟩ : ∃ d, e = d + 86 := ⟨e - 86, by omega⟩
  have h120 := h.1.2.1
  have hn := hk.2.1
  obtain ⟨F, t1, f2, f9, f3⟩ := C18_pre (d + 82) L p r2 r3 s4 C h hk (show 11 < 14 by omega) hV h9
  have e0 := zCa_pre hp f2 f9 f3 hU
  have hU1 : (zcs C 390 F) 0 0 (14 + p) = nI (N + j) := by rw [zcs_n _ _ (by decide)]; exact hU
  have r6 : (zcs C 390 F) 390 0 6 = nI be := by rw [zcs_eq, f3 6 (by decide) (by decide) (by decide) (by decide)]; exact h6
  have r7 : (zcs C 390 F) 390 0 7 = nI 0 := by rw [zcs_eq, f3 7 (by decide) (by decide) (by decide) (by decide)]; exact h7
  have r8 : (zcs C 390 F) 390 0 8 = nI 0 := by rw [zcs_eq, f3 8 (by decide) (by decide) (by decide) (by decide)]; exact h8
  have r9 : (zcs C 390 F) 390 0 9 = nI (t + 1) := by rw [zcs_eq]; exact f9
  have hsw : zswT 32 (124) (0) (13) #[72, 77, 124, 124, 124, 124, 124, 124, 124, 124, 124, 104, 114, 119]  (nI 11) = 136 := by decide
  have hswl : zswT 32 (124) (0) (13) #[72, 77, 124, 124, 124, 124, 124, 124, 124, 124, 124, 104, 114, 119]  11 = 136 := by decide
  obtain ⟨C2, t2, e1, e2⟩ := h1 (d + 85) (by omega) _ (N + j) f2 r7 r8 hU1 (by omega)
  refine ⟨C2, t1.trans ?_, e1, zFC_t (zFC_390 C F) e2⟩
  simp +decide (disch := omega) only [e18_31, hsw, e18_136, e18_141, e18_144, t2, zpre, ite_self, zs1, zs2, zs3, zI_eqb, and_self, not_true_eq_false, if_true, if_false, ite_true, ite_false, not_false_eq_true, zBP, zBZ, zisO, zisA, zlen, decide_true, decide_false, Bool.and_self, Bool.and_true, Bool.true_and, cond_true, cond_false, zBG, zBR, zBU, zBV, zinb_n, zix_n, zlA, zlB, zlM, zlN, zlX, zlI, nI_add, Nat.add_eq_zero_iff, false_and, and_false, and_true, true_and, true_or, or_true, false_or, or_false, zbool_i, zb0, zb1, zshp_0, zcs_eq, zcs_n, zcs_cs, zup_g, zup_n, zp2_sun, zp2_rock, zp2_tug, zp2_contract, zp2_window, zp2_code, zp2_rbody, zp2_rstock, zp2_tfree, zp2_thold, zp2_tknown, zp2_ccells, zsh2_sun, zsh2_rock, zsh2_body, zsh2_stock, zsh2_tug, zsh2_free, zsh2_hold, zsh2_known, zsh2_contract, zsh2_window, zsh2_code, zsh2_cells, zg_nsun0, zg_nsun1, zg_nsun2, zg_nrock0, zg_nrock1, zg_nrock2, zg_nrock3, zg_nrock4, zg_nrock5, zg_nrock6, zg_nrock7, zg_nrock8, zg_nrock9, zg_nrock10, zg_nrock11, zg_nrock12, zg_nrock13, zg_nrock14, zg_ntug0, zg_ntug1, zg_ntug2, zg_ntug3, zg_ntug4, zg_ntug5, zg_ntug6, zg_ntug7, zg_ntug8, zg_ntug9, zg_ntug10, zg_ntug11, zg_ntug12, zg_ntug13, zg_ntug14, zg_ntug15, zg_ntug17, zg_ntug18, zg_ntug19, zg_ntug20, zg_ntug21, zg_ntug22, zg_ncon0, zg_ncon1, zg_ncon2, zg_ncon3, zg_ncon4, zg_ncon5, zg_ncon6, zg_nwin0, zg_nwin1, zg_nwin2, zg_nwin3, zg_nwin4, zg_nwin5, zg_ncode0, zg_ncode1, zg_ncode3, zg_nrule, zg_nstock, zg_nhold, zg_nknown, zg_nord, zg_nrep, zg_ncla, zg_ntou, zg_ncel, zu_nsun0, zu_nsun1, zu_nsun2, zu_nrock0, zu_nrock1, zu_nrock2, zu_nrock3, zu_nrock4, zu_nrock5, zu_nrock6, zu_nrock7, zu_nrock8, zu_nrock9, zu_nrock10, zu_nrock11, zu_nrock12, zu_nrock13, zu_nrock14, zu_ntug0, zu_ntug1, zu_ntug2, zu_ntug3, zu_ntug4, zu_ntug5, zu_ntug6, zu_ntug7, zu_ntug8, zu_ntug9, zu_ntug10, zu_ntug11, zu_ntug12, zu_ntug13, zu_ntug14, zu_ntug15, zu_ntug17, zu_ntug18, zu_ntug19, zu_ntug20, zu_ntug21, zu_ntug22, zu_ncon0, zu_ncon1, zu_ncon2, zu_ncon3, zu_ncon4, zu_ncon5, zu_ncon6, zu_nwin0, zu_nwin1, zu_nwin2, zu_nwin3, zu_nwin4, zu_nwin5, zu_ncode3, zu_nrule, zu_nstock, zu_nhold, zu_nknown, zu_nord, zu_nrep, zu_ncla, zu_ntou, zu_ncel]
theorem A_burnf (D L p r2 r3 s4 : Nat) (hp : p < 4) (T : Nat → Nat) (n : Nat) (x : zLx) (be N j : Nat) (hk : zTk T n x) (hD : 86 ≤ D) (hV : zV T x = zWK 1) {x2 : zLx} (h1 : zEf 84 L p r2 r3 s4 T n 24 [.ref 190, .int 0, zmk, zmk] (zadv T n x) 0 0 x2) : zAf D L p r2 r3 s4 T n 18 [.ref 190, zmk] x be N j x2 := by
  have hkind := zV_1 (by omega) hV
  have ha := zadv_k T n x hk.2.1
  have hlt := hk.2.2.2.2.1 (by rw [hkind]; decide)
  intro e he C t h h6 h7 h8 h9 hU hUx
  obtain ⟨d, rfl⟩ : ∃ d, e = d + 86 := ⟨e - 86, by omega⟩
  have h120 := h.1.2.1
  have hn := hk.2.1
  obtain ⟨F, t1, f2, f9, f3⟩ := C18_pre (d + 82) L p r2 r3 s4 C h hk (show 1 < 14 by omega) hV h9
  have e0 := zCa_pre hp f2 f9 f3 hU
  have hU1 : (zcs C 390 F) 0 0 (14 + p) = nI (N + j) := by rw [zcs_n _ _ (by decide)]; exact hU
  have r6 : (zcs C 390 F) 390 0 6 = nI be := by rw [zcs_eq, f3 6 (by decide) (by decide) (by decide) (by decide)]; exact h6
  have r7 : (zcs C 390 F) 390 0 7 = nI 0 := by rw [zcs_eq, f3 7 (by decide) (by decide) (by decide) (by decide)]; exact h7
  have r8 : (zcs C 390 F) 390 0 8 = nI 0 := by rw [zcs_eq, f3 8 (by decide) (by decide) (by decide) (by decide)]; exact h8
  have r9 : (zcs C 390 F) 390 0 9 = nI (t + 1) := by rw [zcs_eq]; exact f9
  have hsw : zswT 32 (124) (0) (13) #[72, 77, 124, 124, 124, 124, 124, 124, 124, 124, 124, 104, 114, 119]  (nI 1) = 109 := by decide
  have hswl : zswT 32 (124) (0) (13) #[72, 77, 124, 124, 124, 124, 124, 124, 124, 124, 124, 104, 114, 119]  1 = 109 := by decide
  obtain ⟨C2, t2, e1, e2⟩ := h1 (d + 85) (by omega) _ (N + j) f2 r7 r8 hU1 (by omega)
  refine ⟨C2, t1.trans ?_, e1, zFC_t (zFC_390 C F) e2⟩
  simp +decide (disch := omega) only [e18_31, hsw, e18_109, e18_114, e18_134, t2, zpre, ite_self, zs1, zs2, zs3, zI_eqb, and_self, not_true_eq_false, if_true, if_false, ite_true, ite_false, not_false_eq_true, zBP, zBZ, zisO, zisA, zlen, decide_true, decide_false, Bool.and_self, Bool.and_true, Bool.true_and, cond_true, cond_false, zBG, zBR, zBU, zBV, zinb_n, zix_n, zlA, zlB, zlM, zlN, zlX, zlI, nI_add, Nat.add_eq_zero_iff, false_and, and_false, and_true, true_and, true_or, or_true, false_or, or_false, zbool_i, zb0, zb1, zshp_0, zcs_eq, zcs_n, zcs_cs, zup_g, zup_n, zp2_sun, zp2_rock, zp2_tug, zp2_contract, zp2_window, zp2_code, zp2_rbody, zp2_rstock, zp2_tfree, zp2_thold, zp2_tknown, zp2_ccells, zsh2_sun, zsh2_rock, zsh2_body, zsh2_stock, zsh2_tug, zsh2_free, zsh2_hold, zsh2_known, zsh2_contract, zsh2_window, zsh2_code, zsh2_cells, zg_nsun0, zg_nsun1, zg_nsun2, zg_nrock0, zg_nrock1, zg_nrock2, zg_nrock3, zg_nrock4, zg_nrock5, zg_nrock6, zg_nrock7, zg_nrock8, zg_nrock9, zg_nrock10, zg_nrock11, zg_nrock12, zg_nrock13, zg_nrock14, zg_ntug0, zg_ntug1, zg_ntug2, zg_ntug3, zg_ntug4, zg_ntug5, zg_ntug6, zg_ntug7, zg_ntug8, zg_ntug9, zg_ntug10, zg_ntug11, zg_ntug12, zg_ntug13, zg_ntug14, zg_ntug15, zg_ntug17, zg_ntug18, zg_ntug19, zg_ntug20, zg_ntug21, zg_ntug22, zg_ncon0, zg_ncon1, zg_ncon2, zg_ncon3, zg_ncon4, zg_ncon5, zg_ncon6, zg_nwin0, zg_nwin1, zg_nwin2, zg_nwin3, zg_nwin4, zg_nwin5, zg_ncode0, zg_ncode1, zg_ncode3, zg_nrule, zg_nstock, zg_nhold, zg_nknown, zg_nord, zg_nrep, zg_ncla, zg_ntou, zg_ncel, zu_nsun0, zu_nsun1, zu_nsun2, zu_nrock0, zu_nrock1, zu_nrock2, zu_nrock3, zu_nrock4, zu_nrock5, zu_nrock6, zu_nrock7, zu_nrock8, zu_nrock9, zu_nrock10, zu_nrock11, zu_nrock12, zu_nrock13, zu_nrock14, zu_ntug0, zu_ntug1, zu_ntug2, zu_ntug3, zu_ntug4, zu_ntug5, zu_ntug6, zu_ntug7, zu_ntug8, zu_ntug9, zu_ntug10, zu_ntug11, zu_ntug12, zu_ntug13, zu_ntug14, zu_ntug15, zu_ntug17, zu_ntug18, zu_ntug19, zu_ntug20, zu_ntug21, zu_ntug22, zu_ncon0, zu_ncon1, zu_ncon2, zu_ncon3, zu_ncon4, zu_ncon5, zu_ncon6, zu_nwin0, zu_nwin1, zu_nwin2, zu_nwin3, zu_nwin4, zu_nwin5, zu_ncode3, zu_nrule, zu_nstock, zu_nhold, zu_nknown, zu_nord, zu_nrep, zu_ncla, zu_ntou, zu_ncel]
theorem A_burnn (D L p r2 r3 s4 : Nat) (hp : p < 4) (T : Nat → Nat) (n : Nat) (x : zLx) (be N j : Nat) (hk : zTk T n x) (hD : 86 ≤ D) (hV : zV T x = zWK 1) {ws : List (Int32 × Int32)} {x2 : zLx} (h1 : zEt 84 L p r2 r3 s4 T n 24 [.ref 190, .int 0, zmk, zmk] (zadv T n x) 0 0 ws x2) (h44 : ¬ zisg T x2 44) : zAf D L p r2 r3 s4 T n 18 [.ref 190, zmk] x be N j x2 := by
  have hkind := zV_1 (by omega) hV
  have ha := zadv_k T n x hk.2.1
  have hlt := hk.2.2.2.2.1 (by rw [hkind]; decide)
  obtain ⟨a1, a2, a3, a4⟩ := h1
  intro e he C t h h6 h7 h8 h9 hU hUx
  obtain ⟨d, rfl⟩ : ∃ d, e = d + 86 := ⟨e - 86, by omega⟩
  have h120 := h.1.2.1
  have hn := hk.2.1
  obtain ⟨F, t1, f2, f9, f3⟩ := C18_pre (d + 82) L p r2 r3 s4 C h hk (show 1 < 14 by omega) hV h9
  have e0 := zCa_pre hp f2 f9 f3 hU
  have hU1 : (zcs C 390 F) 0 0 (14 + p) = nI (N + j) := by rw [zcs_n _ _ (by decide)]; exact hU
  have r6 : (zcs C 390 F) 390 0 6 = nI be := by rw [zcs_eq, f3 6 (by decide) (by decide) (by decide) (by decide)]; exact h6
  have r7 : (zcs C 390 F) 390 0 7 = nI 0 := by rw [zcs_eq, f3 7 (by decide) (by decide) (by decide) (by decide)]; exact h7
  have r8 : (zcs C 390 F) 390 0 8 = nI 0 := by rw [zcs_eq, f3 8 (by decide) (by decide) (by decide) (by decide)]; exact h8
  have r9 : (zcs C 390 F) 390 0 9 = nI (t + 1) := by rw [zcs_eq]; exact f9
  have hsw : zswT 32 (124) (0) (13) #[72, 77, 124, 124, 124, 124, 124, 124, 124, 124, 124, 104, 114, 119]  (nI 1) = 109 := by decide
  have hswl : zswT 32 (124) (0) (13) #[72, 77, 124, 124, 124, 124, 124, 124, 124, 124, 124, 104, 114, 119]  1 = 109 := by decide
  obtain ⟨C2, t2, e1⟩ := a4 (d + 85) (by omega) _ (N + j) f2 r7 r8 hU1 (by omega)
  have t3 : zR (d + 85) 29 0 [.ref 190, .int 44] [] (zZ L, zI C2, zPd 184 (85 + 2 * p) r2 r3 s4) = _ := C29_n (d + 83) L p r2 r3 s4 C2 e1.1 a3 (c := 44) (by decide) h44
  refine ⟨C2, t1.trans ?_, e1.1.2.2.1, zFC_t (zFC_390 C F) e1.2.1⟩
  simp +decide (disch := omega) only [e18_31, hsw, e18_109, e18_114, e18_117, e18_123, e18_134, t2, t3, zpre, ite_self, zs1, zs2, zs3, zI_eqb, and_self, not_true_eq_false, if_true, if_false, ite_true, ite_false, not_false_eq_true, zBP, zBZ, zisO, zisA, zlen, decide_true, decide_false, Bool.and_self, Bool.and_true, Bool.true_and, cond_true, cond_false, zBG, zBR, zBU, zBV, zinb_n, zix_n, zlA, zlB, zlM, zlN, zlX, zlI, nI_add, Nat.add_eq_zero_iff, false_and, and_false, and_true, true_and, true_or, or_true, false_or, or_false, zbool_i, zb0, zb1, zshp_0, zcs_eq, zcs_n, zcs_cs, zup_g, zup_n, zp2_sun, zp2_rock, zp2_tug, zp2_contract, zp2_window, zp2_code, zp2_rbody, zp2_rstock, zp2_tfree, zp2_thold, zp2_tknown, zp2_ccells, zsh2_sun, zsh2_rock, zsh2_body, zsh2_stock, zsh2_tug, zsh2_free, zsh2_hold, zsh2_known, zsh2_contract, zsh2_window, zsh2_code, zsh2_cells, zg_nsun0, zg_nsun1, zg_nsun2, zg_nrock0, zg_nrock1, zg_nrock2, zg_nrock3, zg_nrock4, zg_nrock5, zg_nrock6, zg_nrock7, zg_nrock8, zg_nrock9, zg_nrock10, zg_nrock11, zg_nrock12, zg_nrock13, zg_nrock14, zg_ntug0, zg_ntug1, zg_ntug2, zg_ntug3, zg_ntug4, zg_ntug5, zg_ntug6, zg_ntug7, zg_ntug8, zg_ntug9, zg_ntug10, zg_ntug11, zg_ntug12, zg_ntug13, zg_ntug14, zg_ntug15, zg_ntug17, zg_ntug18, zg_ntug19, zg_ntug20, zg_ntug21, zg_ntug22, zg_ncon0, zg_ncon1, zg_ncon2, zg_ncon3, zg_ncon4, zg_ncon5, zg_ncon6, zg_nwin0, zg_nwin1, zg_nwin2, zg_nwin3, zg_nwin4, zg_nwin5, zg_ncode0, zg_ncode1, zg_ncode3, zg_nrule, zg_nstock, zg_nhold, zg_nknown, zg_nord, zg_nrep, zg_ncla, zg_ntou, zg_ncel, zu_nsun0, zu_nsun1, zu_nsun2, zu_nrock0, zu_nrock1, zu_nrock2, zu_nrock3, zu_nrock4, zu_nrock5, zu_nrock6, zu_nrock7, zu_nrock8, zu_nrock9, zu_nrock10, zu_nrock11, zu_nrock12, zu_nrock13, zu_nrock14, zu_ntug0, zu_ntug1, zu_ntug2, zu_ntug3, zu_ntug4, zu_ntug5, zu_ntug6, zu_ntug7, zu_ntug8, zu_ntug9, zu_ntug10, zu_ntug11, zu_ntug12, zu_ntug13, zu_ntug14, zu_ntug15, zu_ntug17, zu_ntug18, zu_ntug19, zu_ntug20, zu_ntug21, zu_ntug22, zu_ncon0, zu_ncon1, zu_ncon2, zu_ncon3, zu_ncon4, zu_ncon5, zu_ncon6, zu_nwin0, zu_nwin1, zu_nwin2, zu_nwin3, zu_nwin4, zu_nwin5, zu_ncode3, zu_nrule, zu_nstock, zu_nhold, zu_nknown, zu_nord, zu_nrep, zu_ncla, zu_ntou, zu_ncel]
theorem A_burng (D L p r2 r3 s4 : Nat) (hp : p < 4) (T : Nat → Nat) (n : Nat) (x : zLx) (be N j : Nat) (hk : zTk T n x) (hD : 86 ≤ D) (hV : zV T x = zWK 1) {ws : List (Int32 × Int32)} {x2 x4 : zLx} (h1 : zEt 84 L p r2 r3 s4 T n 24 [.ref 190, .int 0, zmk, zmk] (zadv T n x) 0 0 ws x2) (h44 : zisg T x2 44) (h2 : zEf 84 L p r2 r3 s4 T n 24 [.ref 190, .int 0, zmk, zmk] (zadv T n x2) 0 0 x4) : zAf D L p r2 r3 s4 T n 18 [.ref 190, zmk] x be N j x4 := by
  have hkind := zV_1 (by omega) hV
  have ha := zadv_k T n x hk.2.1
  have hlt := hk.2.2.2.2.1 (by rw [hkind]; decide)
  obtain ⟨a1, a2, a3, a4⟩ := h1
  have ha2 := zadv_k T n x2 a3.2.1
  have hlt2 := a3.2.2.2.2.1 (by rw [h44.1]; decide)
  intro e he C t h h6 h7 h8 h9 hU hUx
  obtain ⟨d, rfl⟩ : ∃ d, e = d + 86 := ⟨e - 86, by omega⟩
  have h120 := h.1.2.1
  have hn := hk.2.1
  obtain ⟨F, t1, f2, f9, f3⟩ := C18_pre (d + 82) L p r2 r3 s4 C h hk (show 1 < 14 by omega) hV h9
  have e0 := zCa_pre hp f2 f9 f3 hU
  have hU1 : (zcs C 390 F) 0 0 (14 + p) = nI (N + j) := by rw [zcs_n _ _ (by decide)]; exact hU
  have r6 : (zcs C 390 F) 390 0 6 = nI be := by rw [zcs_eq, f3 6 (by decide) (by decide) (by decide) (by decide)]; exact h6
  have r7 : (zcs C 390 F) 390 0 7 = nI 0 := by rw [zcs_eq, f3 7 (by decide) (by decide) (by decide) (by decide)]; exact h7
  have r8 : (zcs C 390 F) 390 0 8 = nI 0 := by rw [zcs_eq, f3 8 (by decide) (by decide) (by decide) (by decide)]; exact h8
  have r9 : (zcs C 390 F) 390 0 9 = nI (t + 1) := by rw [zcs_eq]; exact f9
  have hsw : zswT 32 (124) (0) (13) #[72, 77, 124, 124, 124, 124, 124, 124, 124, 124, 124, 104, 114, 119]  (nI 1) = 109 := by decide
  have hswl : zswT 32 (124) (0) (13) #[72, 77, 124, 124, 124, 124, 124, 124, 124, 124, 124, 104, 114, 119]  1 = 109 := by decide
  obtain ⟨C2, t2, e1⟩ := a4 (d + 85) (by omega) _ (N + j) f2 r7 r8 hU1 (by omega)
  obtain ⟨G, t3, g2, g3⟩ := C29_y (d + 82) L p r2 r3 s4 C2 e1.1 a3 h44
  have t3 : zR (d + 85) 29 0 [.ref 190, .int 44] [] (zZ L, zI C2, zPd 184 (85 + 2 * p) r2 r3 s4) = some (some (.int 1), (zZ L, zI (zcs C2 390 G), zPd 184 (85 + 2 * p) r2 r3 s4)) := t3
  have e2 := zCk_t e1 (zCk_go hp g2 g3 e1.2.2.2.1)
  rw [List.append_nil] at e2
  obtain ⟨C4, t4, e3, e4⟩ := h2 (d + 85) (by omega) _ (N + j + ws.length) e2.1 (by rw [e2.2.2.1 7 (by decide) (by decide) (by decide)]; exact r7) (by rw [e2.2.2.1 8 (by decide) (by decide) (by decide)]; exact r8) e2.2.2.2.1 (by omega)
  refine ⟨C4, t1.trans ?_, e3, zFC_t (zFC_390 C F) (zFC_t e2.2.1 e4)⟩
  simp +decide (disch := omega) only [e18_31, hsw, e18_109, e18_114, e18_117, e18_123, e18_126, e18_131, e18_134, t2, t3, t4, zpre, ite_self, zs1, zs2, zs3, zI_eqb, and_self, not_true_eq_false, if_true, if_false, ite_true, ite_false, not_false_eq_true, zBP, zBZ, zisO, zisA, zlen, decide_true, decide_false, Bool.and_self, Bool.and_true, Bool.true_and, cond_true, cond_false, zBG, zBR, zBU, zBV, zinb_n, zix_n, zlA, zlB, zlM, zlN, zlX, zlI, nI_add, Nat.add_eq_zero_iff, false_and, and_false, and_true, true_and, true_or, or_true, false_or, or_false, zbool_i, zb0, zb1, zshp_0, zcs_eq, zcs_n, zcs_cs, zup_g, zup_n, zp2_sun, zp2_rock, zp2_tug, zp2_contract, zp2_window, zp2_code, zp2_rbody, zp2_rstock, zp2_tfree, zp2_thold, zp2_tknown, zp2_ccells, zsh2_sun, zsh2_rock, zsh2_body, zsh2_stock, zsh2_tug, zsh2_free, zsh2_hold, zsh2_known, zsh2_contract, zsh2_window, zsh2_code, zsh2_cells, zg_nsun0, zg_nsun1, zg_nsun2, zg_nrock0, zg_nrock1, zg_nrock2, zg_nrock3, zg_nrock4, zg_nrock5, zg_nrock6, zg_nrock7, zg_nrock8, zg_nrock9, zg_nrock10, zg_nrock11, zg_nrock12, zg_nrock13, zg_nrock14, zg_ntug0, zg_ntug1, zg_ntug2, zg_ntug3, zg_ntug4, zg_ntug5, zg_ntug6, zg_ntug7, zg_ntug8, zg_ntug9, zg_ntug10, zg_ntug11, zg_ntug12, zg_ntug13, zg_ntug14, zg_ntug15, zg_ntug17, zg_ntug18, zg_ntug19, zg_ntug20, zg_ntug21, zg_ntug22, zg_ncon0, zg_ncon1, zg_ncon2, zg_ncon3, zg_ncon4, zg_ncon5, zg_ncon6, zg_nwin0, zg_nwin1, zg_nwin2, zg_nwin3, zg_nwin4, zg_nwin5, zg_ncode0, zg_ncode1, zg_ncode3, zg_nrule, zg_nstock, zg_nhold, zg_nknown, zg_nord, zg_nrep, zg_ncla, zg_ntou, zg_ncel, zu_nsun0, zu_nsun1, zu_nsun2, zu_nrock0, zu_nrock1, zu_nrock2, zu_nrock3, zu_nrock4, zu_nrock5, zu_nrock6, zu_nrock7, zu_nrock8, zu_nrock9, zu_nrock10, zu_nrock11, zu_nrock12, zu_nrock13, zu_nrock14, zu_ntug0, zu_ntug1, zu_ntug2, zu_ntug3, zu_ntug4, zu_ntug5, zu_ntug6, zu_ntug7, zu_ntug8, zu_ntug9, zu_ntug10, zu_ntug11, zu_ntug12, zu_ntug13, zu_ntug14, zu_ntug15, zu_ntug17, zu_ntug18, zu_ntug19, zu_ntug20, zu_ntug21, zu_ntug22, zu_ncon0, zu_ncon1, zu_ncon2, zu_ncon3, zu_ncon4, zu_ncon5, zu_ncon6, zu_nwin0, zu_nwin1, zu_nwin2, zu_nwin3, zu_nwin4, zu_nwin5, zu_ncode3, zu_nrule, zu_nstock, zu_nhold, zu_nknown, zu_nord, zu_nrep, zu_ncla, zu_ntou, zu_ncel]
theorem A_burnt (D L p r2 r3 s4 : Nat) (hp : p < 4) (T : Nat → Nat) (n : Nat) (x : zLx) (be N j : Nat) (hk : zTk T n x) (hD : 86 ≤ D) (hV : zV T x = zWK 1) {ws w2 : List (Int32 × Int32)} {x2 x4 : zLx} (h1 : zEt 84 L p r2 r3 s4 T n 24 [.ref 190, .int 0, zmk, zmk] (zadv T n x) 0 0 ws x2) (h44 : zisg T x2 44) (h2 : zEt 84 L p r2 r3 s4 T n 24 [.ref 190, .int 0, zmk, zmk] (zadv T n x2) 0 0 w2 x4) : zAt D L p r2 r3 s4 T n 18 [.ref 190, zmk] x be N j [(ws ++ w2, (2, nI j, nI (j + ws.length), nI (j + (ws.length + w2.length))), (1, 0))] 1 x4 := by
  have hkind := zV_1 (by omega) hV
  have ha := zadv_k T n x hk.2.1
  have hlt := hk.2.2.2.2.1 (by rw [hkind]; decide)
  obtain ⟨a1, a2, a3, a4⟩ := h1
  obtain ⟨b1, b2, b3, b4⟩ := h2
  have ha2 := zadv_k T n x2 a3.2.1
  have hlt2 := a3.2.2.2.2.1 (by rw [h44.1]; decide)
  refine ⟨by simp only [List.length_cons, List.length_nil, zwc, List.length_append]; omega, by omega, b3, ?_⟩
  intro e he C t h h6 h7 h8 h9 hU hUx
  obtain ⟨d, rfl⟩ : ∃ d, e = d + 86 := ⟨e - 86, by omega⟩
  have h120 := h.1.2.1
  have hn := hk.2.1
  obtain ⟨F, t1, f2, f9, f3⟩ := C18_pre (d + 82) L p r2 r3 s4 C h hk (show 1 < 14 by omega) hV h9
  have e0 := zCa_pre hp f2 f9 f3 hU
  have hU1 : (zcs C 390 F) 0 0 (14 + p) = nI (N + j) := by rw [zcs_n _ _ (by decide)]; exact hU
  have r6 : (zcs C 390 F) 390 0 6 = nI be := by rw [zcs_eq, f3 6 (by decide) (by decide) (by decide) (by decide)]; exact h6
  have r7 : (zcs C 390 F) 390 0 7 = nI 0 := by rw [zcs_eq, f3 7 (by decide) (by decide) (by decide) (by decide)]; exact h7
  have r8 : (zcs C 390 F) 390 0 8 = nI 0 := by rw [zcs_eq, f3 8 (by decide) (by decide) (by decide) (by decide)]; exact h8
  have r9 : (zcs C 390 F) 390 0 9 = nI (t + 1) := by rw [zcs_eq]; exact f9
  have hsw : zswT 32 (124) (0) (13) #[72, 77, 124, 124, 124, 124, 124, 124, 124, 124, 124, 104, 114, 119]  (nI 1) = 109 := by decide
  have hswl : zswT 32 (124) (0) (13) #[72, 77, 124, 124, 124, 124, 124, 124, 124, 124, 124, 104, 114, 119]  1 = 109 := by decide
  obtain ⟨C2, t2, e1⟩ := a4 (d + 85) (by omega) _ (N + j) f2 r7 r8 hU1 (by omega)
  obtain ⟨G, t3, g2, g3⟩ := C29_y (d + 82) L p r2 r3 s4 C2 e1.1 a3 h44
  have t3 : zR (d + 85) 29 0 [.ref 190, .int 44] [] (zZ L, zI C2, zPd 184 (85 + 2 * p) r2 r3 s4) = some (some (.int 1), (zZ L, zI (zcs C2 390 G), zPd 184 (85 + 2 * p) r2 r3 s4)) := t3
  have e2 := zCk_t e1 (zCk_go hp g2 g3 e1.2.2.2.1)
  rw [List.append_nil] at e2
  obtain ⟨C4, t4, e3⟩ := b4 (d + 85) (by omega) _ (N + j + ws.length) e2.1 (by rw [e2.2.2.1 7 (by decide) (by decide) (by decide)]; exact r7) (by rw [e2.2.2.1 8 (by decide) (by decide) (by decide)]; exact r8) e2.2.2.2.1 (by omega)
  have e4 := zCk_t e2 e3
  have e5 := zCa_un hp e4 r9 (2, nI j, nI (j + ws.length), nI (j + (ws.length + w2.length))) 1 0
  have t5 := C23 (d + 84) L p r2 r3 s4 hp C4 (U := N + j + (ws ++ w2).length) (by have := b3.1; have := b3.2.1; rw [List.length_append]; omega) e4.2.2.2.1 1 0
  refine ⟨_, t1.trans ?_, zCa_t0 e0 e5⟩
  simp +decide (disch := omega) only [e18_31, hsw, e18_109, e18_114, e18_117, e18_123, e18_126, e18_131, e18_156, e18_162, hswl, zn1, t2, t3, t4, t5, zpre, ite_self, zs1, zs2, zs3, zI_eqb, and_self, not_true_eq_false, if_true, if_false, ite_true, ite_false, not_false_eq_true, zBP, zBZ, zisO, zisA, zlen, decide_true, decide_false, Bool.and_self, Bool.and_true, Bool.true_and, cond_true, cond_false, zBG, zBR, zBU, zBV, zinb_n, zix_n, zlA, zlB, zlM, zlN, zlX, zlI, nI_add, Nat.add_eq_zero_iff, false_and, and_false, and_true, true_and, true_or, or_true, false_or, or_false, zbool_i, zb0, zb1, zshp_0, zcs_eq, zcs_n, zcs_cs, zup_g, zup_n, zp2_sun, zp2_rock, zp2_tug, zp2_contract, zp2_window, zp2_code, zp2_rbody, zp2_rstock, zp2_tfree, zp2_thold, zp2_tknown, zp2_ccells, zsh2_sun, zsh2_rock, zsh2_body, zsh2_stock, zsh2_tug, zsh2_free, zsh2_hold, zsh2_known, zsh2_contract, zsh2_window, zsh2_code, zsh2_cells, zg_nsun0, zg_nsun1, zg_nsun2, zg_nrock0, zg_nrock1, zg_nrock2, zg_nrock3, zg_nrock4, zg_nrock5, zg_nrock6, zg_nrock7, zg_nrock8, zg_nrock9, zg_nrock10, zg_nrock11, zg_nrock12, zg_nrock13, zg_nrock14, zg_ntug0, zg_ntug1, zg_ntug2, zg_ntug3, zg_ntug4, zg_ntug5, zg_ntug6, zg_ntug7, zg_ntug8, zg_ntug9, zg_ntug10, zg_ntug11, zg_ntug12, zg_ntug13, zg_ntug14, zg_ntug15, zg_ntug17, zg_ntug18, zg_ntug19, zg_ntug20, zg_ntug21, zg_ntug22, zg_ncon0, zg_ncon1, zg_ncon2, zg_ncon3, zg_ncon4, zg_ncon5, zg_ncon6, zg_nwin0, zg_nwin1, zg_nwin2, zg_nwin3, zg_nwin4, zg_nwin5, zg_ncode0, zg_ncode1, zg_ncode3, zg_nrule, zg_nstock, zg_nhold, zg_nknown, zg_nord, zg_nrep, zg_ncla, zg_ntou, zg_ncel, zu_nsun0, zu_nsun1, zu_nsun2, zu_nrock0, zu_nrock1, zu_nrock2, zu_nrock3, zu_nrock4, zu_nrock5, zu_nrock6, zu_nrock7, zu_nrock8, zu_nrock9, zu_nrock10, zu_nrock11, zu_nrock12, zu_nrock13, zu_nrock14, zu_ntug0, zu_ntug1, zu_ntug2, zu_ntug3, zu_ntug4, zu_ntug5, zu_ntug6, zu_ntug7, zu_ntug8, zu_ntug9, zu_ntug10, zu_ntug11, zu_ntug12, zu_ntug13, zu_ntug14, zu_ntug15, zu_ntug17, zu_ntug18, zu_ntug19, zu_ntug20, zu_ntug21, zu_ntug22, zu_ncon0, zu_ncon1, zu_ncon2, zu_ncon3, zu_ncon4, zu_ncon5, zu_ncon6, zu_nwin0, zu_nwin1, zu_nwin2, zu_nwin3, zu_nwin4, zu_nwin5, zu_ncode3, zu_nrule, zu_nstock, zu_nhold, zu_nknown, zu_nord, zu_nrep, zu_ncla, zu_ntou, zu_ncel]

