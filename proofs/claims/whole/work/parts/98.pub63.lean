/-! THE PROGRAM: an E in the class (3), printed by wip/gen/pub63.py -/
/-- the loop of a level is done -/
def zLt (D L p r2 r3 s4 : Nat) (T : Nat → Nat) (n m : Nat) (x : zLx) (b s : Nat) (ws : List (Int32 × Int32)) (x' : zLx) : Prop := x.1 + ws.length ≤ x'.1 ∧ zTk T n x' ∧ ∀ d, D ≤ d → ∀ (C : zCt) (U i : Nat) (v3 : Value), zPC T n C x → C 390 0 7 = nI b → C 390 0 8 = nI s → C 0 0 (14 + p) = nI U → U ≤ x.1 → i ≤ x.1 → ∃ C', zR d 24 24 [.ref 190, .int (nI m), .int (nI i), v3] [] (zZ L, zI C, zPd 184 (85 + 2 * p) r2 r3 s4) = some (some (.int 1), (zZ L, zI C', zPd 184 (85 + 2 * p) r2 r3 s4)) ∧ zCk p T n U C C' ws x'
def zLf (D L p r2 r3 s4 : Nat) (T : Nat → Nat) (n m : Nat) (x : zLx) (b s : Nat) (x' : zLx) : Prop := ∀ d, D ≤ d → ∀ (C : zCt) (U i : Nat) (v3 : Value), zPC T n C x → C 390 0 7 = nI b → C 390 0 8 = nI s → C 0 0 (14 + p) = nI U → U ≤ x.1 → i ≤ x.1 → ∃ C', zR d 24 24 [.ref 190, .int (nI m), .int (nI i), v3] [] (zZ L, zI C, zPd 184 (85 + 2 * p) r2 r3 s4) = some (some (.int 0), (zZ L, zI C', zPd 184 (85 + 2 * p) r2 r3 s4)) ∧ C' 390 0 4 = nI x'.1 ∧ zFC p C C'
theorem zCk_0 {p : Nat} {T : Nat → Nat} {n U : Nat} {C : zCt} {x : zLx} (h : zPC T n C x) (hU : C 0 0 (14 + p) = nI U) : zCk p T n U C C [] x := ⟨h, zFC_r _ _, fun _ _ _ _ => rfl, hU, fun _ _ _ => rfl, trivial⟩
theorem C30y (d L p r2 r3 s4 : Nat) (C : zCt) {T : Nat → Nat} {n m : Nat} {x : zLx} (hm : m < 5) (h : zPC T n C x) (hk : zTk T n x) (hs : zsgn T x / 10 = m + 1) : zR (d + 2) 30 0 [.ref 190, .int (nI m)] [] (zZ L, zI C, zPd 184 (85 + 2 * p) r2 r3 s4) = some (some (.int 1), (zZ L, zI C, zPd 184 (85 + 2 * p) r2 r3 s4)) := by
  rcases (show m = 0 ∨ m = 1 ∨ m = 2 ∨ m = 3 ∨ m = 4 by omega) with rfl | rfl | rfl | rfl | rfl
  · exact C30_0y d L p r2 r3 s4 C h hk hs
  · exact C30_1y d L p r2 r3 s4 C h hk hs
  · exact C30_2y d L p r2 r3 s4 C h hk hs
  · exact C30_3y d L p r2 r3 s4 C h hk hs
  · exact C30_4y d L p r2 r3 s4 C h hk hs
theorem C30n (d L p r2 r3 s4 : Nat) (C : zCt) {T : Nat → Nat} {n m : Nat} {x : zLx} (hm : m < 5) (h : zPC T n C x) (hk : zTk T n x) (hs : ¬ zsgn T x / 10 = m + 1) : zR (d + 2) 30 0 [.ref 190, .int (nI m)] [] (zZ L, zI C, zPd 184 (85 + 2 * p) r2 r3 s4) = some (some (.int 0), (zZ L, zI C, zPd 184 (85 + 2 * p) r2 r3 s4)) := by
  rcases (show m = 0 ∨ m = 1 ∨ m = 2 ∨ m = 3 ∨ m = 4 by omega) with rfl | rfl | rfl | rfl | rfl
  · exact C30_0n d L p r2 r3 s4 C h hk hs
  · exact C30_1n d L p r2 r3 s4 C h hk hs
  · exact C30_2n d L p r2 r3 s4 C h hk hs
  · exact C30_3n d L p r2 r3 s4 C h hk hs
  · exact C30_4n d L p r2 r3 s4 C h hk hs
theorem zsc_w : ∀ b, b < 256 → zsc b ≠ 0 → (nI b, nI (zsc b)) ∈ zopw ∧ ¬ nI (zsc b) = 2 := by decide +kernel
/-- a level is its parts and its loop -/
theorem E_lev (D D' L p r2 r3 s4 : Nat) (hD' : D' + 1 ≤ D) (T : Nat → Nat) (n m : Nat) (hm : m < 5) (x : zLx) (b s : Nat) {ws w2 : List (Int32 × Int32)} {x1 x2 : zLx} (h1 : zEt D' L p r2 r3 s4 T n 24 [.ref 190, .int (nI (m + 1)), zmk, zmk] x b s ws x1) (h2 : zLt D L p r2 r3 s4 T n m x1 b s w2 x2) : zEt D L p r2 r3 s4 T n 24 [.ref 190, .int (nI m), zmk, zmk] x b s (ws ++ w2) x2 := by
  obtain ⟨a1, a2, a3, a4⟩ := h1
  obtain ⟨b1, b2, b3⟩ := h2
  refine ⟨by simp only [List.length_append]; omega, by omega, b2, fun e he C U h h7 h8 hU hUx => ?_⟩
  obtain ⟨d, rfl⟩ : ∃ d, e = d + 1 := ⟨e - 1, by omega⟩
  obtain ⟨C1, t1, e1⟩ := a4 d (by omega) C U h h7 h8 hU hUx
  obtain ⟨C2, t2, e2⟩ := b3 (d + 1) he C1 (U + ws.length) 0 zmk e1.1 (by rw [e1.2.2.1 7 (by decide) (by decide) (by decide)]; exact h7) (by rw [e1.2.2.1 8 (by decide) (by decide) (by decide)]; exact h8) e1.2.2.2.1 (by omega) (by omega)
  have c1 : nI m < 5 := nI_lt (b := 5) hm (by decide)
  refine ⟨C2, ?_, zCk_t e1 e2⟩
  rw [← t2, e24_0, if_pos c1, e24_10]
  simp +decide (disch := omega) only [e24_17, e24_22, t1, zn0, zpre, ite_self, zs1, zs2, zs3, zI_eqb, and_self, not_true_eq_false, if_true, if_false, ite_true, ite_false, not_false_eq_true, zBP, zBZ, zisO, zisA, zlen, decide_true, decide_false, Bool.and_self, Bool.and_true, Bool.true_and, cond_true, cond_false, zBG, zBR, zBU, zBV, zinb_n, zix_n, zlA, zlB, zlM, zlN, zlX, zlI, nI_add, Nat.add_eq_zero_iff, false_and, and_false, and_true, true_and, true_or, or_true, false_or, or_false, zbool_i, zb0, zb1, zshp_0, zcs_eq, zcs_n, zcs_cs, zup_g, zup_n, zp2_sun, zp2_rock, zp2_tug, zp2_contract, zp2_window, zp2_code, zp2_rbody, zp2_rstock, zp2_tfree, zp2_thold, zp2_tknown, zp2_ccells, zsh2_sun, zsh2_rock, zsh2_body, zsh2_stock, zsh2_tug, zsh2_free, zsh2_hold, zsh2_known, zsh2_contract, zsh2_window, zsh2_code, zsh2_cells, zg_nsun0, zg_nsun1, zg_nsun2, zg_nrock0, zg_nrock1, zg_nrock2, zg_nrock3, zg_nrock4, zg_nrock5, zg_nrock6, zg_nrock7, zg_nrock8, zg_nrock9, zg_nrock10, zg_nrock11, zg_nrock12, zg_nrock13, zg_nrock14, zg_ntug0, zg_ntug1, zg_ntug2, zg_ntug3, zg_ntug4, zg_ntug5, zg_ntug6, zg_ntug7, zg_ntug8, zg_ntug9, zg_ntug10, zg_ntug11, zg_ntug12, zg_ntug13, zg_ntug14, zg_ntug15, zg_ntug17, zg_ntug18, zg_ntug19, zg_ntug20, zg_ntug21, zg_ntug22, zg_ncon0, zg_ncon1, zg_ncon2, zg_ncon3, zg_ncon4, zg_ncon5, zg_ncon6, zg_nwin0, zg_nwin1, zg_nwin2, zg_nwin3, zg_nwin4, zg_nwin5, zg_ncode0, zg_ncode1, zg_ncode3, zg_nrule, zg_nstock, zg_nhold, zg_nknown, zg_nord, zg_nrep, zg_ncla, zg_ntou, zg_ncel, zu_nsun0, zu_nsun1, zu_nsun2, zu_nrock0, zu_nrock1, zu_nrock2, zu_nrock3, zu_nrock4, zu_nrock5, zu_nrock6, zu_nrock7, zu_nrock8, zu_nrock9, zu_nrock10, zu_nrock11, zu_nrock12, zu_nrock13, zu_nrock14, zu_ntug0, zu_ntug1, zu_ntug2, zu_ntug3, zu_ntug4, zu_ntug5, zu_ntug6, zu_ntug7, zu_ntug8, zu_ntug9, zu_ntug10, zu_ntug11, zu_ntug12, zu_ntug13, zu_ntug14, zu_ntug15, zu_ntug17, zu_ntug18, zu_ntug19, zu_ntug20, zu_ntug21, zu_ntug22, zu_ncon0, zu_ncon1, zu_ncon2, zu_ncon3, zu_ncon4, zu_ncon5, zu_ncon6, zu_nwin0, zu_nwin1, zu_nwin2, zu_nwin3, zu_nwin4, zu_nwin5, zu_ncode3, zu_nrule, zu_nstock, zu_nhold, zu_nknown, zu_nord, zu_nrep, zu_ncla, zu_ntou, zu_ncel]
theorem E_levf (D D' L p r2 r3 s4 : Nat) (hD' : D' + 1 ≤ D) (T : Nat → Nat) (n m : Nat) (hm : m < 5) (x : zLx) (b s : Nat) {x1 : zLx} (h1 : zEf D' L p r2 r3 s4 T n 24 [.ref 190, .int (nI (m + 1)), zmk, zmk] x b s x1) : zEf D L p r2 r3 s4 T n 24 [.ref 190, .int (nI m), zmk, zmk] x b s x1 := by
  intro e he C U h h7 h8 hU hUx
  obtain ⟨d, rfl⟩ : ∃ d, e = d + 1 := ⟨e - 1, by omega⟩
  obtain ⟨C1, t1, e1, e2⟩ := h1 d (by omega) C U h h7 h8 hU hUx
  have c1 : nI m < 5 := nI_lt (b := 5) hm (by decide)
  refine ⟨C1, ?_, e1, e2⟩
  rw [e24_0, if_pos c1, e24_10]
  simp +decide (disch := omega) only [e24_17, e24_20, t1, zpre, ite_self, zs1, zs2, zs3, zI_eqb, and_self, not_true_eq_false, if_true, if_false, ite_true, ite_false, not_false_eq_true, zBP, zBZ, zisO, zisA, zlen, decide_true, decide_false, Bool.and_self, Bool.and_true, Bool.true_and, cond_true, cond_false, zBG, zBR, zBU, zBV, zinb_n, zix_n, zlA, zlB, zlM, zlN, zlX, zlI, nI_add, Nat.add_eq_zero_iff, false_and, and_false, and_true, true_and, true_or, or_true, false_or, or_false, zbool_i, zb0, zb1, zshp_0, zcs_eq, zcs_n, zcs_cs, zup_g, zup_n, zp2_sun, zp2_rock, zp2_tug, zp2_contract, zp2_window, zp2_code, zp2_rbody, zp2_rstock, zp2_tfree, zp2_thold, zp2_tknown, zp2_ccells, zsh2_sun, zsh2_rock, zsh2_body, zsh2_stock, zsh2_tug, zsh2_free, zsh2_hold, zsh2_known, zsh2_contract, zsh2_window, zsh2_code, zsh2_cells, zg_nsun0, zg_nsun1, zg_nsun2, zg_nrock0, zg_nrock1, zg_nrock2, zg_nrock3, zg_nrock4, zg_nrock5, zg_nrock6, zg_nrock7, zg_nrock8, zg_nrock9, zg_nrock10, zg_nrock11, zg_nrock12, zg_nrock13, zg_nrock14, zg_ntug0, zg_ntug1, zg_ntug2, zg_ntug3, zg_ntug4, zg_ntug5, zg_ntug6, zg_ntug7, zg_ntug8, zg_ntug9, zg_ntug10, zg_ntug11, zg_ntug12, zg_ntug13, zg_ntug14, zg_ntug15, zg_ntug17, zg_ntug18, zg_ntug19, zg_ntug20, zg_ntug21, zg_ntug22, zg_ncon0, zg_ncon1, zg_ncon2, zg_ncon3, zg_ncon4, zg_ncon5, zg_ncon6, zg_nwin0, zg_nwin1, zg_nwin2, zg_nwin3, zg_nwin4, zg_nwin5, zg_ncode0, zg_ncode1, zg_ncode3, zg_nrule, zg_nstock, zg_nhold, zg_nknown, zg_nord, zg_nrep, zg_ncla, zg_ntou, zg_ncel, zu_nsun0, zu_nsun1, zu_nsun2, zu_nrock0, zu_nrock1, zu_nrock2, zu_nrock3, zu_nrock4, zu_nrock5, zu_nrock6, zu_nrock7, zu_nrock8, zu_nrock9, zu_nrock10, zu_nrock11, zu_nrock12, zu_nrock13, zu_nrock14, zu_ntug0, zu_ntug1, zu_ntug2, zu_ntug3, zu_ntug4, zu_ntug5, zu_ntug6, zu_ntug7, zu_ntug8, zu_ntug9, zu_ntug10, zu_ntug11, zu_ntug12, zu_ntug13, zu_ntug14, zu_ntug15, zu_ntug17, zu_ntug18, zu_ntug19, zu_ntug20, zu_ntug21, zu_ntug22, zu_ncon0, zu_ncon1, zu_ncon2, zu_ncon3, zu_ncon4, zu_ncon5, zu_ncon6, zu_nwin0, zu_nwin1, zu_nwin2, zu_nwin3, zu_nwin4, zu_nwin5, zu_ncode3, zu_nrule, zu_nstock, zu_nhold, zu_nknown, zu_nord, zu_nrep, zu_ncla, zu_ntou, zu_ncel]
theorem E_levg (D D' L p r2 r3 s4 : Nat) (hD' : D' + 1 ≤ D) (T : Nat → Nat) (n m : Nat) (hm : m < 5) (x : zLx) (b s : Nat) {ws : List (Int32 × Int32)} {x1 x2 : zLx} (h1 : zEt D' L p r2 r3 s4 T n 24 [.ref 190, .int (nI (m + 1)), zmk, zmk] x b s ws x1) (h2 : zLf D L p r2 r3 s4 T n m x1 b s x2) : zEf D L p r2 r3 s4 T n 24 [.ref 190, .int (nI m), zmk, zmk] x b s x2 := by
  obtain ⟨a1, a2, a3, a4⟩ := h1
  intro e he C U h h7 h8 hU hUx
  obtain ⟨d, rfl⟩ : ∃ d, e = d + 1 := ⟨e - 1, by omega⟩
  obtain ⟨C1, t1, e1⟩ := a4 d (by omega) C U h h7 h8 hU hUx
  obtain ⟨C2, t2, e2, e3⟩ := h2 (d + 1) he C1 (U + ws.length) 0 zmk e1.1 (by rw [e1.2.2.1 7 (by decide) (by decide) (by decide)]; exact h7) (by rw [e1.2.2.1 8 (by decide) (by decide) (by decide)]; exact h8) e1.2.2.2.1 (by omega) (by omega)
  have c1 : nI m < 5 := nI_lt (b := 5) hm (by decide)
  refine ⟨C2, ?_, e2, zFC_t e1.2.1 e3⟩
  rw [← t2, e24_0, if_pos c1, e24_10]
  simp +decide (disch := omega) only [e24_17, e24_22, t1, zn0, zpre, ite_self, zs1, zs2, zs3, zI_eqb, and_self, not_true_eq_false, if_true, if_false, ite_true, ite_false, not_false_eq_true, zBP, zBZ, zisO, zisA, zlen, decide_true, decide_false, Bool.and_self, Bool.and_true, Bool.true_and, cond_true, cond_false, zBG, zBR, zBU, zBV, zinb_n, zix_n, zlA, zlB, zlM, zlN, zlX, zlI, nI_add, Nat.add_eq_zero_iff, false_and, and_false, and_true, true_and, true_or, or_true, false_or, or_false, zbool_i, zb0, zb1, zshp_0, zcs_eq, zcs_n, zcs_cs, zup_g, zup_n, zp2_sun, zp2_rock, zp2_tug, zp2_contract, zp2_window, zp2_code, zp2_rbody, zp2_rstock, zp2_tfree, zp2_thold, zp2_tknown, zp2_ccells, zsh2_sun, zsh2_rock, zsh2_body, zsh2_stock, zsh2_tug, zsh2_free, zsh2_hold, zsh2_known, zsh2_contract, zsh2_window, zsh2_code, zsh2_cells, zg_nsun0, zg_nsun1, zg_nsun2, zg_nrock0, zg_nrock1, zg_nrock2, zg_nrock3, zg_nrock4, zg_nrock5, zg_nrock6, zg_nrock7, zg_nrock8, zg_nrock9, zg_nrock10, zg_nrock11, zg_nrock12, zg_nrock13, zg_nrock14, zg_ntug0, zg_ntug1, zg_ntug2, zg_ntug3, zg_ntug4, zg_ntug5, zg_ntug6, zg_ntug7, zg_ntug8, zg_ntug9, zg_ntug10, zg_ntug11, zg_ntug12, zg_ntug13, zg_ntug14, zg_ntug15, zg_ntug17, zg_ntug18, zg_ntug19, zg_ntug20, zg_ntug21, zg_ntug22, zg_ncon0, zg_ncon1, zg_ncon2, zg_ncon3, zg_ncon4, zg_ncon5, zg_ncon6, zg_nwin0, zg_nwin1, zg_nwin2, zg_nwin3, zg_nwin4, zg_nwin5, zg_ncode0, zg_ncode1, zg_ncode3, zg_nrule, zg_nstock, zg_nhold, zg_nknown, zg_nord, zg_nrep, zg_ncla, zg_ntou, zg_ncel, zu_nsun0, zu_nsun1, zu_nsun2, zu_nrock0, zu_nrock1, zu_nrock2, zu_nrock3, zu_nrock4, zu_nrock5, zu_nrock6, zu_nrock7, zu_nrock8, zu_nrock9, zu_nrock10, zu_nrock11, zu_nrock12, zu_nrock13, zu_nrock14, zu_ntug0, zu_ntug1, zu_ntug2, zu_ntug3, zu_ntug4, zu_ntug5, zu_ntug6, zu_ntug7, zu_ntug8, zu_ntug9, zu_ntug10, zu_ntug11, zu_ntug12, zu_ntug13, zu_ntug14, zu_ntug15, zu_ntug17, zu_ntug18, zu_ntug19, zu_ntug20, zu_ntug21, zu_ntug22, zu_ncon0, zu_ncon1, zu_ncon2, zu_ncon3, zu_ncon4, zu_ncon5, zu_ncon6, zu_nwin0, zu_nwin1, zu_nwin2, zu_nwin3, zu_nwin4, zu_nwin5, zu_ncode3, zu_nrule, zu_nstock, zu_nhold, zu_nknown, zu_nord, zu_nrep, zu_ncla, zu_ntou, zu_ncel]
/-- the last level is a part -/
theorem E_x5 (D D' L p r2 r3 s4 : Nat) (hD' : D' + 1 ≤ D) (T : Nat → Nat) (n : Nat) (x : zLx) (b s : Nat) {ws : List (Int32 × Int32)} {x1 : zLx} (h1 : zEt D' L p r2 r3 s4 T n 25 [.ref 190] x b s ws x1) : zEt D L p r2 r3 s4 T n 24 [.ref 190, .int (nI 5), zmk, zmk] x b s ws x1 := by
  obtain ⟨a1, a2, a3, a4⟩ := h1
  refine ⟨a1, a2, a3, fun e he C U h h7 h8 hU hUx => ?_⟩
  obtain ⟨d, rfl⟩ : ∃ d, e = d + 1 := ⟨e - 1, by omega⟩
  obtain ⟨C1, t1, e1⟩ := a4 d (by omega) C U h h7 h8 hU hUx
  refine ⟨C1, ?_, e1⟩
  rw [e24_0, if_neg (by decide), e24_5]
  simp +decide (disch := omega) only [e24_9, t1, zpre, ite_self, zs1, zs2, zs3, zI_eqb, and_self, not_true_eq_false, if_true, if_false, ite_true, ite_false, not_false_eq_true, zBP, zBZ, zisO, zisA, zlen, decide_true, decide_false, Bool.and_self, Bool.and_true, Bool.true_and, cond_true, cond_false, zBG, zBR, zBU, zBV, zinb_n, zix_n, zlA, zlB, zlM, zlN, zlX, zlI, nI_add, Nat.add_eq_zero_iff, false_and, and_false, and_true, true_and, true_or, or_true, false_or, or_false, zbool_i, zb0, zb1, zshp_0, zcs_eq, zcs_n, zcs_cs, zup_g, zup_n, zp2_sun, zp2_rock, zp2_tug, zp2_contract, zp2_window, zp2_code, zp2_rbody, zp2_rstock, zp2_tfree, zp2_thold, zp2_tknown, zp2_ccells, zsh2_sun, zsh2_rock, zsh2_body, zsh2_stock, zsh2_tug, zsh2_free, zsh2_hold, zsh2_known, zsh2_contract, zsh2_window, zsh2_code, zsh2_cells, zg_nsun0, zg_nsun1, zg_nsun2, zg_nrock0, zg_nrock1, zg_nrock2, zg_nrock3, zg_nrock4, zg_nrock5, zg_nrock6, zg_nrock7, zg_nrock8, zg_nrock9, zg_nrock10, zg_nrock11, zg_nrock12, zg_nrock13, zg_nrock14, zg_ntug0, zg_ntug1, zg_ntug2, zg_ntug3, zg_ntug4, zg_ntug5, zg_ntug6, zg_ntug7, zg_ntug8, zg_ntug9, zg_ntug10, zg_ntug11, zg_ntug12, zg_ntug13, zg_ntug14, zg_ntug15, zg_ntug17, zg_ntug18, zg_ntug19, zg_ntug20, zg_ntug21, zg_ntug22, zg_ncon0, zg_ncon1, zg_ncon2, zg_ncon3, zg_ncon4, zg_ncon5, zg_ncon6, zg_nwin0, zg_nwin1, zg_nwin2, zg_nwin3, zg_nwin4, zg_nwin5, zg_ncode0, zg_ncode1, zg_ncode3, zg_nrule, zg_nstock, zg_nhold, zg_nknown, zg_nord, zg_nrep, zg_ncla, zg_ntou, zg_ncel, zu_nsun0, zu_nsun1, zu_nsun2, zu_nrock0, zu_nrock1, zu_nrock2, zu_nrock3, zu_nrock4, zu_nrock5, zu_nrock6, zu_nrock7, zu_nrock8, zu_nrock9, zu_nrock10, zu_nrock11, zu_nrock12, zu_nrock13, zu_nrock14, zu_ntug0, zu_ntug1, zu_ntug2, zu_ntug3, zu_ntug4, zu_ntug5, zu_ntug6, zu_ntug7, zu_ntug8, zu_ntug9, zu_ntug10, zu_ntug11, zu_ntug12, zu_ntug13, zu_ntug14, zu_ntug15, zu_ntug17, zu_ntug18, zu_ntug19, zu_ntug20, zu_ntug21, zu_ntug22, zu_ncon0, zu_ncon1, zu_ncon2, zu_ncon3, zu_ncon4, zu_ncon5, zu_ncon6, zu_nwin0, zu_nwin1, zu_nwin2, zu_nwin3, zu_nwin4, zu_nwin5, zu_ncode3, zu_nrule, zu_nstock, zu_nhold, zu_nknown, zu_nord, zu_nrep, zu_ncla, zu_ntou, zu_ncel]
theorem E_x5f (D D' L p r2 r3 s4 : Nat) (hD' : D' + 1 ≤ D) (T : Nat → Nat) (n : Nat) (x : zLx) (b s : Nat) {x1 : zLx} (h1 : zEf D' L p r2 r3 s4 T n 25 [.ref 190] x b s x1) : zEf D L p r2 r3 s4 T n 24 [.ref 190, .int (nI 5), zmk, zmk] x b s x1 := by
  intro e he C U h h7 h8 hU hUx
  obtain ⟨d, rfl⟩ : ∃ d, e = d + 1 := ⟨e - 1, by omega⟩
  obtain ⟨C1, t1, e1, e2⟩ := h1 d (by omega) C U h h7 h8 hU hUx
  refine ⟨C1, ?_, e1, e2⟩
  rw [e24_0, if_neg (by decide), e24_5]
  simp +decide (disch := omega) only [e24_9, t1, zpre, ite_self, zs1, zs2, zs3, zI_eqb, and_self, not_true_eq_false, if_true, if_false, ite_true, ite_false, not_false_eq_true, zBP, zBZ, zisO, zisA, zlen, decide_true, decide_false, Bool.and_self, Bool.and_true, Bool.true_and, cond_true, cond_false, zBG, zBR, zBU, zBV, zinb_n, zix_n, zlA, zlB, zlM, zlN, zlX, zlI, nI_add, Nat.add_eq_zero_iff, false_and, and_false, and_true, true_and, true_or, or_true, false_or, or_false, zbool_i, zb0, zb1, zshp_0, zcs_eq, zcs_n, zcs_cs, zup_g, zup_n, zp2_sun, zp2_rock, zp2_tug, zp2_contract, zp2_window, zp2_code, zp2_rbody, zp2_rstock, zp2_tfree, zp2_thold, zp2_tknown, zp2_ccells, zsh2_sun, zsh2_rock, zsh2_body, zsh2_stock, zsh2_tug, zsh2_free, zsh2_hold, zsh2_known, zsh2_contract, zsh2_window, zsh2_code, zsh2_cells, zg_nsun0, zg_nsun1, zg_nsun2, zg_nrock0, zg_nrock1, zg_nrock2, zg_nrock3, zg_nrock4, zg_nrock5, zg_nrock6, zg_nrock7, zg_nrock8, zg_nrock9, zg_nrock10, zg_nrock11, zg_nrock12, zg_nrock13, zg_nrock14, zg_ntug0, zg_ntug1, zg_ntug2, zg_ntug3, zg_ntug4, zg_ntug5, zg_ntug6, zg_ntug7, zg_ntug8, zg_ntug9, zg_ntug10, zg_ntug11, zg_ntug12, zg_ntug13, zg_ntug14, zg_ntug15, zg_ntug17, zg_ntug18, zg_ntug19, zg_ntug20, zg_ntug21, zg_ntug22, zg_ncon0, zg_ncon1, zg_ncon2, zg_ncon3, zg_ncon4, zg_ncon5, zg_ncon6, zg_nwin0, zg_nwin1, zg_nwin2, zg_nwin3, zg_nwin4, zg_nwin5, zg_ncode0, zg_ncode1, zg_ncode3, zg_nrule, zg_nstock, zg_nhold, zg_nknown, zg_nord, zg_nrep, zg_ncla, zg_ntou, zg_ncel, zu_nsun0, zu_nsun1, zu_nsun2, zu_nrock0, zu_nrock1, zu_nrock2, zu_nrock3, zu_nrock4, zu_nrock5, zu_nrock6, zu_nrock7, zu_nrock8, zu_nrock9, zu_nrock10, zu_nrock11, zu_nrock12, zu_nrock13, zu_nrock14, zu_ntug0, zu_ntug1, zu_ntug2, zu_ntug3, zu_ntug4, zu_ntug5, zu_ntug6, zu_ntug7, zu_ntug8, zu_ntug9, zu_ntug10, zu_ntug11, zu_ntug12, zu_ntug13, zu_ntug14, zu_ntug15, zu_ntug17, zu_ntug18, zu_ntug19, zu_ntug20, zu_ntug21, zu_ntug22, zu_ncon0, zu_ncon1, zu_ncon2, zu_ncon3, zu_ncon4, zu_ncon5, zu_ncon6, zu_nwin0, zu_nwin1, zu_nwin2, zu_nwin3, zu_nwin4, zu_nwin5, zu_ncode3, zu_nrule, zu_nstock, zu_nhold, zu_nknown, zu_nord, zu_nrep, zu_ncla, zu_ntou, zu_ncel]
theorem L_stop (D L p r2 r3 s4 : Nat) (hD : 4 ≤ D) (T : Nat → Nat) (n m : Nat) (hm : m < 5) (x : zLx) (b s : Nat) (hk : zTk T n x) (hs : ¬ zsgn T x / 10 = m + 1) : zLt D L p r2 r3 s4 T n m x b s [] x := by
  refine ⟨Nat.le_refl _, hk, fun e he C U i v3 h h7 h8 hU hUx hi => ⟨C, ?_, zCk_0 h hU⟩⟩
  obtain ⟨d, rfl⟩ : ∃ d, e = d + 4 := ⟨e - 4, by omega⟩
  have t1 := C30n (d + 1) L p r2 r3 s4 C hm h hk hs
  have h120 := h.1.2.1
  have := hk.1
  have := hk.2.1
  rw [e24_24v]
  by_cases c : (120 : Int32) ≤ nI i
  · rw [if_pos c, e24_83]
  · rw [if_neg c, e24_30]
    simp +decide (disch := omega) only [e24_35, e24_83, t1, zpre, ite_self, zs1, zs2, zs3, zI_eqb, and_self, not_true_eq_false, if_true, if_false, ite_true, ite_false, not_false_eq_true, zBP, zBZ, zisO, zisA, zlen, decide_true, decide_false, Bool.and_self, Bool.and_true, Bool.true_and, cond_true, cond_false, zBG, zBR, zBU, zBV, zinb_n, zix_n, zlA, zlB, zlM, zlN, zlX, zlI, nI_add, Nat.add_eq_zero_iff, false_and, and_false, and_true, true_and, true_or, or_true, false_or, or_false, zbool_i, zb0, zb1, zshp_0, zcs_eq, zcs_n, zcs_cs, zup_g, zup_n, zp2_sun, zp2_rock, zp2_tug, zp2_contract, zp2_window, zp2_code, zp2_rbody, zp2_rstock, zp2_tfree, zp2_thold, zp2_tknown, zp2_ccells, zsh2_sun, zsh2_rock, zsh2_body, zsh2_stock, zsh2_tug, zsh2_free, zsh2_hold, zsh2_known, zsh2_contract, zsh2_window, zsh2_code, zsh2_cells, zg_nsun0, zg_nsun1, zg_nsun2, zg_nrock0, zg_nrock1, zg_nrock2, zg_nrock3, zg_nrock4, zg_nrock5, zg_nrock6, zg_nrock7, zg_nrock8, zg_nrock9, zg_nrock10, zg_nrock11, zg_nrock12, zg_nrock13, zg_nrock14, zg_ntug0, zg_ntug1, zg_ntug2, zg_ntug3, zg_ntug4, zg_ntug5, zg_ntug6, zg_ntug7, zg_ntug8, zg_ntug9, zg_ntug10, zg_ntug11, zg_ntug12, zg_ntug13, zg_ntug14, zg_ntug15, zg_ntug17, zg_ntug18, zg_ntug19, zg_ntug20, zg_ntug21, zg_ntug22, zg_ncon0, zg_ncon1, zg_ncon2, zg_ncon3, zg_ncon4, zg_ncon5, zg_ncon6, zg_nwin0, zg_nwin1, zg_nwin2, zg_nwin3, zg_nwin4, zg_nwin5, zg_ncode0, zg_ncode1, zg_ncode3, zg_nrule, zg_nstock, zg_nhold, zg_nknown, zg_nord, zg_nrep, zg_ncla, zg_ntou, zg_ncel, zu_nsun0, zu_nsun1, zu_nsun2, zu_nrock0, zu_nrock1, zu_nrock2, zu_nrock3, zu_nrock4, zu_nrock5, zu_nrock6, zu_nrock7, zu_nrock8, zu_nrock9, zu_nrock10, zu_nrock11, zu_nrock12, zu_nrock13, zu_nrock14, zu_ntug0, zu_ntug1, zu_ntug2, zu_ntug3, zu_ntug4, zu_ntug5, zu_ntug6, zu_ntug7, zu_ntug8, zu_ntug9, zu_ntug10, zu_ntug11, zu_ntug12, zu_ntug13, zu_ntug14, zu_ntug15, zu_ntug17, zu_ntug18, zu_ntug19, zu_ntug20, zu_ntug21, zu_ntug22, zu_ncon0, zu_ncon1, zu_ncon2, zu_ncon3, zu_ncon4, zu_ncon5, zu_ncon6, zu_nwin0, zu_nwin1, zu_nwin2, zu_nwin3, zu_nwin4, zu_nwin5, zu_ncode3, zu_nrule, zu_nstock, zu_nhold, zu_nknown, zu_nord, zu_nrep, zu_ncla, zu_ntou, zu_ncel]

theorem L_join2 (D D' L p r2 r3 s4 : Nat) (hp : p < 4) (hD : 4 ≤ D) (hD' : D' + 1 ≤ D) (T : Nat → Nat) (n m : Nat) (hm : m < 5) (hm2 : m = 2) (x : zLx) (b s : Nat) (hk : zTk T n x) (hs : zsgn T x / 10 = m + 1) {ws w2 : List (Int32 × Int32)} {x1 x2 : zLx} (h1 : zEt D' L p r2 r3 s4 T n 24 [.ref 190, .int (nI (m + 1)), zmk, zmk] (zadv T n x) b s ws x1) : zLt D L p r2 r3 s4 T n m x b s (ws ++ [(nI (zsgn T x), 0)]) x1 := by
  have hkind : x.2.2 = 3 := by
    by_cases q : x.2.2 = 3
    · exact q
    · unfold zsgn at hs
      rw [if_neg q] at hs
      omega
  have hz : zsgn T x = zsc (T x.1) := if_pos hkind
  have ha := zadv_k T n x hk.2.1
  have hlt := hk.2.2.2.2.1 (by rw [hkind]; decide)
  have hto := hk.2.2.2.2.2.1 hkind
  obtain ⟨a1, a2, a3, a4⟩ := h1
  refine ⟨by simp only [List.length_append, List.length_cons, List.length_nil]; omega, a3, fun e he C U i v3 h h7 h8 hU hUx hi => ?_⟩
  obtain ⟨d, rfl⟩ : ∃ d, e = d + 4 := ⟨e - 4, by omega⟩
  have h120 := h.1.2.1
  have hn := hk.2.1
  have c0 : ¬ (120 : Int32) ≤ nI i := nI_ge (b := 120) (by omega) (by decide)
  have t1 := C30y (d + 1) L p r2 r3 s4 C hm h hk hs
  have t2 := C15_in (d + 3) L p r2 r3 s4 C h.1 (show x.1 < n by omega)
  have hb := (h.1.2.2 x.1 (by omega)).2
  have h4 := h.2.2.1
  obtain ⟨F, t3, f2, f3⟩ := C14 (d + 1) L p r2 r3 s4 C h hk.2.1 (by rw [hkind]; decide)
  have e0 := zCk_go hp f2 f3 hU
  obtain ⟨C3, t4, e1⟩ := a4 (d + 3) (by omega) _ U f2 (by rw [zcs_eq]; exact (f3 7 (by decide) (by decide) (by decide)).trans h7) (by rw [zcs_eq]; exact (f3 8 (by decide) (by decide) (by decide)).trans h8) (by rw [zcs_n _ _ (by decide)]; exact hU) (by omega)
  obtain ⟨z1, z2⟩ := zsc_w (T x.1) hb (fun q => by rw [hz, q] at hs; omega)
  have e2 := zCk_t e0 e1
  rw [List.nil_append] at e2
  have e3 := zCk_em hp (n := n) (T := T) (U := U + ws.length) e1.1 (o := nI (T x.1)) (v := 0) (w := nI (zsgn T x)) (v' := 0) (by rw [hz]; exact ⟨z1, rfl, fun q => absurd q z2⟩)
  have t5 := C23 (d + 2) L p r2 r3 s4 hp C3 (U := U + ws.length) (by have := a3.1; have := a3.2.1; omega) e1.2.2.2.1 (nI (T x.1)) 0
  have e4 := zCk_t e2 e3
  have c2 : (nI m = 2) = True := eq_true (by rw [hm2]; rfl)
  refine ⟨_, ?_, e4⟩
  rw [e24_24v, if_neg c0]
  simp +decide (disch := omega) only [e24_30, e24_35, e24_38, e24_46, e24_51, e24_58, h4, t1, t2, t3, t4, e24_63, e24_69, e24_75, t5, c2, zpre, ite_self, zs1, zs2, zs3, zI_eqb, and_self, not_true_eq_false, if_true, if_false, ite_true, ite_false, not_false_eq_true, zBP, zBZ, zisO, zisA, zlen, decide_true, decide_false, Bool.and_self, Bool.and_true, Bool.true_and, cond_true, cond_false, zBG, zBR, zBU, zBV, zinb_n, zix_n, zlA, zlB, zlM, zlN, zlX, zlI, nI_add, Nat.add_eq_zero_iff, false_and, and_false, and_true, true_and, true_or, or_true, false_or, or_false, zbool_i, zb0, zb1, zshp_0, zcs_eq, zcs_n, zcs_cs, zup_g, zup_n, zp2_sun, zp2_rock, zp2_tug, zp2_contract, zp2_window, zp2_code, zp2_rbody, zp2_rstock, zp2_tfree, zp2_thold, zp2_tknown, zp2_ccells, zsh2_sun, zsh2_rock, zsh2_body, zsh2_stock, zsh2_tug, zsh2_free, zsh2_hold, zsh2_known, zsh2_contract, zsh2_window, zsh2_code, zsh2_cells, zg_nsun0, zg_nsun1, zg_nsun2, zg_nrock0, zg_nrock1, zg_nrock2, zg_nrock3, zg_nrock4, zg_nrock5, zg_nrock6, zg_nrock7, zg_nrock8, zg_nrock9, zg_nrock10, zg_nrock11, zg_nrock12, zg_nrock13, zg_nrock14, zg_ntug0, zg_ntug1, zg_ntug2, zg_ntug3, zg_ntug4, zg_ntug5, zg_ntug6, zg_ntug7, zg_ntug8, zg_ntug9, zg_ntug10, zg_ntug11, zg_ntug12, zg_ntug13, zg_ntug14, zg_ntug15, zg_ntug17, zg_ntug18, zg_ntug19, zg_ntug20, zg_ntug21, zg_ntug22, zg_ncon0, zg_ncon1, zg_ncon2, zg_ncon3, zg_ncon4, zg_ncon5, zg_ncon6, zg_nwin0, zg_nwin1, zg_nwin2, zg_nwin3, zg_nwin4, zg_nwin5, zg_ncode0, zg_ncode1, zg_ncode3, zg_nrule, zg_nstock, zg_nhold, zg_nknown, zg_nord, zg_nrep, zg_ncla, zg_ntou, zg_ncel, zu_nsun0, zu_nsun1, zu_nsun2, zu_nrock0, zu_nrock1, zu_nrock2, zu_nrock3, zu_nrock4, zu_nrock5, zu_nrock6, zu_nrock7, zu_nrock8, zu_nrock9, zu_nrock10, zu_nrock11, zu_nrock12, zu_nrock13, zu_nrock14, zu_ntug0, zu_ntug1, zu_ntug2, zu_ntug3, zu_ntug4, zu_ntug5, zu_ntug6, zu_ntug7, zu_ntug8, zu_ntug9, zu_ntug10, zu_ntug11, zu_ntug12, zu_ntug13, zu_ntug14, zu_ntug15, zu_ntug17, zu_ntug18, zu_ntug19, zu_ntug20, zu_ntug21, zu_ntug22, zu_ncon0, zu_ncon1, zu_ncon2, zu_ncon3, zu_ncon4, zu_ncon5, zu_ncon6, zu_nwin0, zu_nwin1, zu_nwin2, zu_nwin3, zu_nwin4, zu_nwin5, zu_ncode3, zu_nrule, zu_nstock, zu_nhold, zu_nknown, zu_nord, zu_nrep, zu_ncla, zu_ntou, zu_ncel]
theorem L_joint (D D' L p r2 r3 s4 : Nat) (hp : p < 4) (hD : 4 ≤ D) (hD' : D' + 1 ≤ D) (T : Nat → Nat) (n m : Nat) (hm : m < 5) (hm2 : m ≠ 2) (x : zLx) (b s : Nat) (hk : zTk T n x) (hs : zsgn T x / 10 = m + 1) {ws w2 : List (Int32 × Int32)} {x1 x2 : zLx} (h1 : zEt D' L p r2 r3 s4 T n 24 [.ref 190, .int (nI (m + 1)), zmk, zmk] (zadv T n x) b s ws x1) (h2 : zLt D L p r2 r3 s4 T n m x1 b s w2 x2) : zLt D L p r2 r3 s4 T n m x b s (ws ++ [(nI (zsgn T x), 0)] ++ w2) x2 := by
  have hkind : x.2.2 = 3 := by
    by_cases q : x.2.2 = 3
    · exact q
    · unfold zsgn at hs
      rw [if_neg q] at hs
      omega
  have hz : zsgn T x = zsc (T x.1) := if_pos hkind
  have ha := zadv_k T n x hk.2.1
  have hlt := hk.2.2.2.2.1 (by rw [hkind]; decide)
  have hto := hk.2.2.2.2.2.1 hkind
  obtain ⟨a1, a2, a3, a4⟩ := h1
  obtain ⟨b1, b2, b3⟩ := h2
  refine ⟨by simp only [List.length_append, List.length_cons, List.length_nil]; omega, b2, fun e he C U i v3 h h7 h8 hU hUx hi => ?_⟩
  obtain ⟨d, rfl⟩ : ∃ d, e = d + 4 := ⟨e - 4, by omega⟩
  have h120 := h.1.2.1
  have hn := hk.2.1
  have c0 : ¬ (120 : Int32) ≤ nI i := nI_ge (b := 120) (by omega) (by decide)
  have t1 := C30y (d + 1) L p r2 r3 s4 C hm h hk hs
  have t2 := C15_in (d + 3) L p r2 r3 s4 C h.1 (show x.1 < n by omega)
  have hb := (h.1.2.2 x.1 (by omega)).2
  have h4 := h.2.2.1
  obtain ⟨F, t3, f2, f3⟩ := C14 (d + 1) L p r2 r3 s4 C h hk.2.1 (by rw [hkind]; decide)
  have e0 := zCk_go hp f2 f3 hU
  obtain ⟨C3, t4, e1⟩ := a4 (d + 3) (by omega) _ U f2 (by rw [zcs_eq]; exact (f3 7 (by decide) (by decide) (by decide)).trans h7) (by rw [zcs_eq]; exact (f3 8 (by decide) (by decide) (by decide)).trans h8) (by rw [zcs_n _ _ (by decide)]; exact hU) (by omega)
  obtain ⟨z1, z2⟩ := zsc_w (T x.1) hb (fun q => by rw [hz, q] at hs; omega)
  have e2 := zCk_t e0 e1
  rw [List.nil_append] at e2
  have e3 := zCk_em hp (n := n) (T := T) (U := U + ws.length) e1.1 (o := nI (T x.1)) (v := 0) (w := nI (zsgn T x)) (v' := 0) (by rw [hz]; exact ⟨z1, rfl, fun q => absurd q z2⟩)
  have t5 := C23 (d + 2) L p r2 r3 s4 hp C3 (U := U + ws.length) (by have := a3.1; have := a3.2.1; omega) e1.2.2.2.1 (nI (T x.1)) 0
  have e4 := zCk_t e2 e3
  have c2 : ¬ nI m = 2 := fun q => hm2 ((nI_eq (b := 2) (by omega) (by decide)).mp q)
  obtain ⟨C5, t6, e5⟩ := b3 (d + 4) he _ (U + (ws ++ [(nI (zsgn T x), 0)]).length) (i + 1) (.int (nI (T x.1))) e4.1 (by rw [e4.2.2.1 7 (by decide) (by decide) (by decide)]; exact h7) (by rw [e4.2.2.1 8 (by decide) (by decide) (by decide)]; exact h8) e4.2.2.2.1 (by simp only [List.length_append, List.length_cons, List.length_nil]; omega) (by omega)
  refine ⟨C5, ?_, zCk_t e4 e5⟩
  rw [← t6, e24_24v, if_neg c0]
  simp +decide (disch := omega) only [e24_30, e24_35, e24_38, e24_46, e24_51, e24_58, h4, t1, t2, t3, t4, e24_63, e24_69, e24_77, t5, c2, zpre, ite_self, zs1, zs2, zs3, zI_eqb, and_self, not_true_eq_false, if_true, if_false, ite_true, ite_false, not_false_eq_true, zBP, zBZ, zisO, zisA, zlen, decide_true, decide_false, Bool.and_self, Bool.and_true, Bool.true_and, cond_true, cond_false, zBG, zBR, zBU, zBV, zinb_n, zix_n, zlA, zlB, zlM, zlN, zlX, zlI, nI_add, Nat.add_eq_zero_iff, false_and, and_false, and_true, true_and, true_or, or_true, false_or, or_false, zbool_i, zb0, zb1, zshp_0, zcs_eq, zcs_n, zcs_cs, zup_g, zup_n, zp2_sun, zp2_rock, zp2_tug, zp2_contract, zp2_window, zp2_code, zp2_rbody, zp2_rstock, zp2_tfree, zp2_thold, zp2_tknown, zp2_ccells, zsh2_sun, zsh2_rock, zsh2_body, zsh2_stock, zsh2_tug, zsh2_free, zsh2_hold, zsh2_known, zsh2_contract, zsh2_window, zsh2_code, zsh2_cells, zg_nsun0, zg_nsun1, zg_nsun2, zg_nrock0, zg_nrock1, zg_nrock2, zg_nrock3, zg_nrock4, zg_nrock5, zg_nrock6, zg_nrock7, zg_nrock8, zg_nrock9, zg_nrock10, zg_nrock11, zg_nrock12, zg_nrock13, zg_nrock14, zg_ntug0, zg_ntug1, zg_ntug2, zg_ntug3, zg_ntug4, zg_ntug5, zg_ntug6, zg_ntug7, zg_ntug8, zg_ntug9, zg_ntug10, zg_ntug11, zg_ntug12, zg_ntug13, zg_ntug14, zg_ntug15, zg_ntug17, zg_ntug18, zg_ntug19, zg_ntug20, zg_ntug21, zg_ntug22, zg_ncon0, zg_ncon1, zg_ncon2, zg_ncon3, zg_ncon4, zg_ncon5, zg_ncon6, zg_nwin0, zg_nwin1, zg_nwin2, zg_nwin3, zg_nwin4, zg_nwin5, zg_ncode0, zg_ncode1, zg_ncode3, zg_nrule, zg_nstock, zg_nhold, zg_nknown, zg_nord, zg_nrep, zg_ncla, zg_ntou, zg_ncel, zu_nsun0, zu_nsun1, zu_nsun2, zu_nrock0, zu_nrock1, zu_nrock2, zu_nrock3, zu_nrock4, zu_nrock5, zu_nrock6, zu_nrock7, zu_nrock8, zu_nrock9, zu_nrock10, zu_nrock11, zu_nrock12, zu_nrock13, zu_nrock14, zu_ntug0, zu_ntug1, zu_ntug2, zu_ntug3, zu_ntug4, zu_ntug5, zu_ntug6, zu_ntug7, zu_ntug8, zu_ntug9, zu_ntug10, zu_ntug11, zu_ntug12, zu_ntug13, zu_ntug14, zu_ntug15, zu_ntug17, zu_ntug18, zu_ntug19, zu_ntug20, zu_ntug21, zu_ntug22, zu_ncon0, zu_ncon1, zu_ncon2, zu_ncon3, zu_ncon4, zu_ncon5, zu_ncon6, zu_nwin0, zu_nwin1, zu_nwin2, zu_nwin3, zu_nwin4, zu_nwin5, zu_ncode3, zu_nrule, zu_nstock, zu_nhold, zu_nknown, zu_nord, zu_nrep, zu_ncla, zu_ntou, zu_ncel]
theorem L_joinf (D D' L p r2 r3 s4 : Nat) (hp : p < 4) (hD : 4 ≤ D) (hD' : D' + 1 ≤ D) (T : Nat → Nat) (n m : Nat) (hm : m < 5) (x : zLx) (b s : Nat) (hk : zTk T n x) (hs : zsgn T x / 10 = m + 1) {ws w2 : List (Int32 × Int32)} {x1 x2 : zLx} (h1 : zEf D' L p r2 r3 s4 T n 24 [.ref 190, .int (nI (m + 1)), zmk, zmk] (zadv T n x) b s x1) : zLf D L p r2 r3 s4 T n m x b s x1 := by
  have hkind : x.2.2 = 3 := by
    by_cases q : x.2.2 = 3
    · exact q
    · unfold zsgn at hs
      rw [if_neg q] at hs
      omega
  have hz : zsgn T x = zsc (T x.1) := if_pos hkind
  have ha := zadv_k T n x hk.2.1
  have hlt := hk.2.2.2.2.1 (by rw [hkind]; decide)
  have hto := hk.2.2.2.2.2.1 hkind
  intro e he C U i v3 h h7 h8 hU hUx hi
  obtain ⟨d, rfl⟩ : ∃ d, e = d + 4 := ⟨e - 4, by omega⟩
  have h120 := h.1.2.1
  have hn := hk.2.1
  have c0 : ¬ (120 : Int32) ≤ nI i := nI_ge (b := 120) (by omega) (by decide)
  have t1 := C30y (d + 1) L p r2 r3 s4 C hm h hk hs
  have t2 := C15_in (d + 3) L p r2 r3 s4 C h.1 (show x.1 < n by omega)
  have hb := (h.1.2.2 x.1 (by omega)).2
  have h4 := h.2.2.1
  obtain ⟨F, t3, f2, f3⟩ := C14 (d + 1) L p r2 r3 s4 C h hk.2.1 (by rw [hkind]; decide)
  have e0 := zCk_go hp f2 f3 hU
  obtain ⟨C3, t4, e1, e2⟩ := h1 (d + 3) (by omega) _ U f2 (by rw [zcs_eq]; exact (f3 7 (by decide) (by decide) (by decide)).trans h7) (by rw [zcs_eq]; exact (f3 8 (by decide) (by decide) (by decide)).trans h8) (by rw [zcs_n _ _ (by decide)]; exact hU) (by omega)
  refine ⟨C3, ?_, e1, zFC_t (zFC_390 C F) e2⟩
  rw [e24_24v, if_neg c0]
  simp +decide (disch := omega) only [e24_30, e24_35, e24_38, e24_46, e24_51, e24_58, h4, t1, t2, t3, t4, e24_61, zpre, ite_self, zs1, zs2, zs3, zI_eqb, and_self, not_true_eq_false, if_true, if_false, ite_true, ite_false, not_false_eq_true, zBP, zBZ, zisO, zisA, zlen, decide_true, decide_false, Bool.and_self, Bool.and_true, Bool.true_and, cond_true, cond_false, zBG, zBR, zBU, zBV, zinb_n, zix_n, zlA, zlB, zlM, zlN, zlX, zlI, nI_add, Nat.add_eq_zero_iff, false_and, and_false, and_true, true_and, true_or, or_true, false_or, or_false, zbool_i, zb0, zb1, zshp_0, zcs_eq, zcs_n, zcs_cs, zup_g, zup_n, zp2_sun, zp2_rock, zp2_tug, zp2_contract, zp2_window, zp2_code, zp2_rbody, zp2_rstock, zp2_tfree, zp2_thold, zp2_tknown, zp2_ccells, zsh2_sun, zsh2_rock, zsh2_body, zsh2_stock, zsh2_tug, zsh2_free, zsh2_hold, zsh2_known, zsh2_contract, zsh2_window, zsh2_code, zsh2_cells, zg_nsun0, zg_nsun1, zg_nsun2, zg_nrock0, zg_nrock1, zg_nrock2, zg_nrock3, zg_nrock4, zg_nrock5, zg_nrock6, zg_nrock7, zg_nrock8, zg_nrock9, zg_nrock10, zg_nrock11, zg_nrock12, zg_nrock13, zg_nrock14, zg_ntug0, zg_ntug1, zg_ntug2, zg_ntug3, zg_ntug4, zg_ntug5, zg_ntug6, zg_ntug7, zg_ntug8, zg_ntug9, zg_ntug10, zg_ntug11, zg_ntug12, zg_ntug13, zg_ntug14, zg_ntug15, zg_ntug17, zg_ntug18, zg_ntug19, zg_ntug20, zg_ntug21, zg_ntug22, zg_ncon0, zg_ncon1, zg_ncon2, zg_ncon3, zg_ncon4, zg_ncon5, zg_ncon6, zg_nwin0, zg_nwin1, zg_nwin2, zg_nwin3, zg_nwin4, zg_nwin5, zg_ncode0, zg_ncode1, zg_ncode3, zg_nrule, zg_nstock, zg_nhold, zg_nknown, zg_nord, zg_nrep, zg_ncla, zg_ntou, zg_ncel, zu_nsun0, zu_nsun1, zu_nsun2, zu_nrock0, zu_nrock1, zu_nrock2, zu_nrock3, zu_nrock4, zu_nrock5, zu_nrock6, zu_nrock7, zu_nrock8, zu_nrock9, zu_nrock10, zu_nrock11, zu_nrock12, zu_nrock13, zu_nrock14, zu_ntug0, zu_ntug1, zu_ntug2, zu_ntug3, zu_ntug4, zu_ntug5, zu_ntug6, zu_ntug7, zu_ntug8, zu_ntug9, zu_ntug10, zu_ntug11, zu_ntug12, zu_ntug13, zu_ntug14, zu_ntug15, zu_ntug17, zu_ntug18, zu_ntug19, zu_ntug20, zu_ntug21, zu_ntug22, zu_ncon0, zu_ncon1, zu_ncon2, zu_ncon3, zu_ncon4, zu_ncon5, zu_ncon6, zu_nwin0, zu_nwin1, zu_nwin2, zu_nwin3, zu_nwin4, zu_nwin5, zu_ncode3, zu_nrule, zu_nstock, zu_nhold, zu_nknown, zu_nord, zu_nrep, zu_ncla, zu_ntou, zu_ncel]
theorem L_joing (D D' L p r2 r3 s4 : Nat) (hp : p < 4) (hD : 4 ≤ D) (hD' : D' + 1 ≤ D) (T : Nat → Nat) (n m : Nat) (hm : m < 5) (hm2 : m ≠ 2) (x : zLx) (b s : Nat) (hk : zTk T n x) (hs : zsgn T x / 10 = m + 1) {ws w2 : List (Int32 × Int32)} {x1 x2 : zLx} (h1 : zEt D' L p r2 r3 s4 T n 24 [.ref 190, .int (nI (m + 1)), zmk, zmk] (zadv T n x) b s ws x1) (h2 : zLf D L p r2 r3 s4 T n m x1 b s x2) : zLf D L p r2 r3 s4 T n m x b s x2 := by
  have hkind : x.2.2 = 3 := by
    by_cases q : x.2.2 = 3
    · exact q
    · unfold zsgn at hs
      rw [if_neg q] at hs
      omega
  have hz : zsgn T x = zsc (T x.1) := if_pos hkind
  have ha := zadv_k T n x hk.2.1
  have hlt := hk.2.2.2.2.1 (by rw [hkind]; decide)
  have hto := hk.2.2.2.2.2.1 hkind
  obtain ⟨a1, a2, a3, a4⟩ := h1
  intro e he C U i v3 h h7 h8 hU hUx hi
  obtain ⟨d, rfl⟩ : ∃ d, e = d + 4 := ⟨e - 4, by omega⟩
  have h120 := h.1.2.1
  have hn := hk.2.1
  have c0 : ¬ (120 : Int32) ≤ nI i := nI_ge (b := 120) (by omega) (by decide)
  have t1 := C30y (d + 1) L p r2 r3 s4 C hm h hk hs
  have t2 := C15_in (d + 3) L p r2 r3 s4 C h.1 (show x.1 < n by omega)
  have hb := (h.1.2.2 x.1 (by omega)).2
  have h4 := h.2.2.1
  obtain ⟨F, t3, f2, f3⟩ := C14 (d + 1) L p r2 r3 s4 C h hk.2.1 (by rw [hkind]; decide)
  have e0 := zCk_go hp f2 f3 hU
  obtain ⟨C3, t4, e1⟩ := a4 (d + 3) (by omega) _ U f2 (by rw [zcs_eq]; exact (f3 7 (by decide) (by decide) (by decide)).trans h7) (by rw [zcs_eq]; exact (f3 8 (by decide) (by decide) (by decide)).trans h8) (by rw [zcs_n _ _ (by decide)]; exact hU) (by omega)
  obtain ⟨z1, z2⟩ := zsc_w (T x.1) hb (fun q => by rw [hz, q] at hs; omega)
  have e2 := zCk_t e0 e1
  rw [List.nil_append] at e2
  have e3 := zCk_em hp (n := n) (T := T) (U := U + ws.length) e1.1 (o := nI (T x.1)) (v := 0) (w := nI (zsgn T x)) (v' := 0) (by rw [hz]; exact ⟨z1, rfl, fun q => absurd q z2⟩)
  have t5 := C23 (d + 2) L p r2 r3 s4 hp C3 (U := U + ws.length) (by have := a3.1; have := a3.2.1; omega) e1.2.2.2.1 (nI (T x.1)) 0
  have e4 := zCk_t e2 e3
  have c2 : ¬ nI m = 2 := fun q => hm2 ((nI_eq (b := 2) (by omega) (by decide)).mp q)
  obtain ⟨C5, t6, e5, e6⟩ := h2 (d + 4) he _ (U + (ws ++ [(nI (zsgn T x), 0)]).length) (i + 1) (.int (nI (T x.1))) e4.1 (by rw [e4.2.2.1 7 (by decide) (by decide) (by decide)]; exact h7) (by rw [e4.2.2.1 8 (by decide) (by decide) (by decide)]; exact h8) e4.2.2.2.1 (by simp only [List.length_append, List.length_cons, List.length_nil]; omega) (by omega)
  refine ⟨C5, ?_, e5, zFC_t e4.2.1 e6⟩
  rw [← t6, e24_24v, if_neg c0]
  simp +decide (disch := omega) only [e24_30, e24_35, e24_38, e24_46, e24_51, e24_58, h4, t1, t2, t3, t4, e24_63, e24_69, e24_77, t5, c2, zpre, ite_self, zs1, zs2, zs3, zI_eqb, and_self, not_true_eq_false, if_true, if_false, ite_true, ite_false, not_false_eq_true, zBP, zBZ, zisO, zisA, zlen, decide_true, decide_false, Bool.and_self, Bool.and_true, Bool.true_and, cond_true, cond_false, zBG, zBR, zBU, zBV, zinb_n, zix_n, zlA, zlB, zlM, zlN, zlX, zlI, nI_add, Nat.add_eq_zero_iff, false_and, and_false, and_true, true_and, true_or, or_true, false_or, or_false, zbool_i, zb0, zb1, zshp_0, zcs_eq, zcs_n, zcs_cs, zup_g, zup_n, zp2_sun, zp2_rock, zp2_tug, zp2_contract, zp2_window, zp2_code, zp2_rbody, zp2_rstock, zp2_tfree, zp2_thold, zp2_tknown, zp2_ccells, zsh2_sun, zsh2_rock, zsh2_body, zsh2_stock, zsh2_tug, zsh2_free, zsh2_hold, zsh2_known, zsh2_contract, zsh2_window, zsh2_code, zsh2_cells, zg_nsun0, zg_nsun1, zg_nsun2, zg_nrock0, zg_nrock1, zg_nrock2, zg_nrock3, zg_nrock4, zg_nrock5, zg_nrock6, zg_nrock7, zg_nrock8, zg_nrock9, zg_nrock10, zg_nrock11, zg_nrock12, zg_nrock13, zg_nrock14, zg_ntug0, zg_ntug1, zg_ntug2, zg_ntug3, zg_ntug4, zg_ntug5, zg_ntug6, zg_ntug7, zg_ntug8, zg_ntug9, zg_ntug10, zg_ntug11, zg_ntug12, zg_ntug13, zg_ntug14, zg_ntug15, zg_ntug17, zg_ntug18, zg_ntug19, zg_ntug20, zg_ntug21, zg_ntug22, zg_ncon0, zg_ncon1, zg_ncon2, zg_ncon3, zg_ncon4, zg_ncon5, zg_ncon6, zg_nwin0, zg_nwin1, zg_nwin2, zg_nwin3, zg_nwin4, zg_nwin5, zg_ncode0, zg_ncode1, zg_ncode3, zg_nrule, zg_nstock, zg_nhold, zg_nknown, zg_nord, zg_nrep, zg_ncla, zg_ntou, zg_ncel, zu_nsun0, zu_nsun1, zu_nsun2, zu_nrock0, zu_nrock1, zu_nrock2, zu_nrock3, zu_nrock4, zu_nrock5, zu_nrock6, zu_nrock7, zu_nrock8, zu_nrock9, zu_nrock10, zu_nrock11, zu_nrock12, zu_nrock13, zu_nrock14, zu_ntug0, zu_ntug1, zu_ntug2, zu_ntug3, zu_ntug4, zu_ntug5, zu_ntug6, zu_ntug7, zu_ntug8, zu_ntug9, zu_ntug10, zu_ntug11, zu_ntug12, zu_ntug13, zu_ntug14, zu_ntug15, zu_ntug17, zu_ntug18, zu_ntug19, zu_ntug20, zu_ntug21, zu_ntug22, zu_ncon0, zu_ncon1, zu_ncon2, zu_ncon3, zu_ncon4, zu_ncon5, zu_ncon6, zu_nwin0, zu_nwin1, zu_nwin2, zu_nwin3, zu_nwin4, zu_nwin5, zu_ncode3, zu_nrule, zu_nstock, zu_nhold, zu_nknown, zu_nord, zu_nrep, zu_ncla, zu_ntou, zu_ncel]
