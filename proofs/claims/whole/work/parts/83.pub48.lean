/-! THE RUN: jumps, printed by wip/gen/pub48.py -/
theorem e208_14v (d : Nat) (Z : List (Nat × Nat)) (I : Nat → Nat → Int32) (P : Nat → Nat → Nat) (r0 : Nat) (x1 x2 x3 x4 : Int32) (v6 : Value) (v5 : Value) : zR d 208 14 [.ref r0, .int x1, .int x2, .int x3, .int x4, v5, v6] [] (Z, I, P) = (if x4 = 0 then zR d 208 141 [.ref r0, .int x1, .int x2, .int x3, .int x4, v5, v6] [] (Z, I, P) else zR d 208 19 [.ref r0, .int x1, .int x2, .int x3, .int x4, v5, v6] [] (Z, I, P)) := zE_br (g := true) (p := x4 = 0) (t := 141) (f := 19) zK208 rfl zi208 10 2 rfl
theorem zmonw {w : Nat → Nat} {N : Nat} (h : ∀ k, k < N → w k ≤ w (k + 1)) : ∀ {a b : Nat}, a ≤ b → b ≤ N → w a ≤ w b := by
  intro a b hab
  induction b with
  | zero => intro _; rw [Nat.le_zero.mp hab]; exact Nat.le_refl _
  | succ b IH =>
    intro hb
    by_cases e : a = b + 1
    · rw [e]; exact Nat.le_refl _
    · exact Nat.le_trans (IH (by omega) (by omega)) (h b (by omega))
theorem zo_lit {o : Nat} (h1 : 3 ≤ o) (h2 : o ≤ 11) (c : Nat) (hc : c < 1000) (hne : c < 3 ∨ 11 < c) : ¬ nI o = nI c := fun e => by
  have := (nI_eq (by omega) (by omega)).mp e
  omega
/-- a jump -/
theorem zL_j {S W : zGp} {w : Nat → Nat} {N k : Nat} {op arg : Int32} (h : zsr S W w N k op arg) (e : S k 0 = 14) : op = 15 ∧ w (k + 1) = w k ∧ ∃ T, T ≤ N ∧ S k 1 = nI T ∧ arg = nI (T + w T) ∧ (k < T ∨ (T ≤ k ∧ S T 0 = 13)) := by
  rcases h with ⟨o, h1, h2, h3, _⟩ | ⟨h3, _⟩ | ⟨h3, _⟩ | ⟨h3, _⟩ | ⟨h3, _⟩ | ⟨_, h3, h4, h5⟩
  · rw [e] at h3
    exact absurd h3.symm (zo_lit h1 h2 14 (by omega) (by omega))
  · rw [e] at h3; exact absurd h3 (by decide)
  · rw [e] at h3; exact absurd h3 (by decide)
  · rw [e] at h3; exact absurd h3 (by decide)
  · rw [e] at h3; exact absurd h3 (by decide)
  · exact ⟨h3, h4, h5⟩
theorem zL_op {S W : zGp} {w : Nat → Nat} {N k : Nat} {op arg : Int32} (h : zsr S W w N k op arg) : op ≤ 15 := by
  rcases h with ⟨o, h1, h2, h3, h4, _⟩ | ⟨_, h3, _⟩ | ⟨_, h3, _⟩ | ⟨_, h3, _⟩ | ⟨_, h3, _⟩ | ⟨_, h3, _⟩
  · rw [h4]; exact nI_le (b := 15) (by omega) (by decide)
  · rw [h3]; decide
  · rw [h3]; decide
  · rw [h3]; decide
  · rcases h3 with h3 | h3 <;> rw [h3] <;> decide
  · rw [h3]; decide
theorem zL_n15 {S W : zGp} {w : Nat → Nat} {N k : Nat} {op arg : Int32} (h : zsr S W w N k op arg) (e : ¬ S k 0 = 14) : ¬ op = 15 := by
  rcases h with ⟨o, h1, h2, h3, h4, _⟩ | ⟨_, h3, _⟩ | ⟨_, h3, _⟩ | ⟨_, h3, _⟩ | ⟨_, h3, _⟩ | ⟨h3, _⟩
  · rw [h4]
    intro q
    have := (nI_eq (a := o - 1) (b := 15) (by omega) (by decide)).mp q
    omega
  · rw [h3]; decide
  · rw [h3]; decide
  · rw [h3]; decide
  · rcases h3 with h3 | h3 <;> rw [h3] <;> decide
  · exact absurd h3 e
/-- no jump stands where an S begins that is none -/
theorem zL_nj {A S W : zGp} {w : Nat → Nat} {N k : Nat} (hm : w k ≤ w (k + 1)) (hw : ∀ j, w k ≤ j → j < w (k + 1) → zwr (A (k + j) 0) (A (k + j) 1) (W j 0) (W j 1)) (h : zsr S W w N k (A (k + w (k + 1)) 0) (A (k + w (k + 1)) 1)) (e : ¬ S k 0 = 14) : ¬ A (k + w k) 0 = 15 := by
  by_cases hl : w k < w (k + 1)
  · have := zopw_15 (hw (w k) (Nat.le_refl _) hl).1
    intro q
    rw [q] at this
    exact this (by decide)
  · have h2 : w (k + 1) = w k := by omega
    rw [h2] at h
    exact zL_n15 h e
theorem C51_go (d L p0 p2 s4 : Nat) (u : Nat) (C : zCt) {p row U : Nat} (hp : p < 4) (hr : row < U) (hU1 : U ≤ 120) (hU : C 0 0 (14 + p) = nI U) (x1 : Int32) {i : Nat} (hi : i < 120) (hop : C (10 + p) row 0 = 15) : zR (d + 2) 51 4 [.ref (85 + 2 * p), .int x1, .int (nI row), .int (nI i)] [] (zZ L, zI C, zPd p0 p2 2 (45 + 4 * u) s4) = zR (d + 2) 51 4 [.ref (85 + 2 * p), .int x1, .int (C (10 + p) row 1), .int (nI (i + 1))] [] (zZ L, zI C, zPd p0 p2 2 (45 + 4 * u) s4) := by
  have h1 : ¬ nI U ≤ nI row := nI_ge hr (by omega)
  have h2 : ¬ (120 : Int32) ≤ nI i := nI_ge (b := 120) hi (by decide)
  have t0 := T44_0 (d + 1) L p0 p2 s4 u C hp hr hU1 hU
  have t1 := T44_1 (d + 1) L p0 p2 s4 u C hp hr hU1 hU
  rw [hop] at t0
  rw [e51_4]
  simp +decide (disch := omega) only [T43c, t0, t1, hU, h1, h2, e51_10, e51_15, e51_18, e51_24, e51_29, e51_35, zpre, ite_self, zs1, zs2, zs3, zI_eqb, and_self, not_true_eq_false, if_true, if_false, ite_true, ite_false, not_false_eq_true, zBP, zBZ, zisO, zisA, zlen, decide_true, decide_false, Bool.and_self, Bool.and_true, Bool.true_and, cond_true, cond_false, zBG, zBR, zBU, zBV, zinb_n, zix_n, zlA, zlB, zlM, zlN, zlX, zlI, nI_add, Nat.add_eq_zero_iff, false_and, and_false, and_true, true_and, true_or, or_true, false_or, or_false, zbool_i, zb0, zb1, zshp_0, zcs_eq, zcs_n, zcs_cs, zup_g, zup_n, zp2_sun, zp2_rock, zp2_tug, zp2_contract, zp2_window, zp2_code, zp2_rbody, zp2_rstock, zp2_tfree, zp2_thold, zp2_tknown, zp2_ccells, zsh2_sun, zsh2_rock, zsh2_body, zsh2_stock, zsh2_tug, zsh2_free, zsh2_hold, zsh2_known, zsh2_contract, zsh2_window, zsh2_code, zsh2_cells, zg_nsun0, zg_nsun1, zg_nsun2, zg_nrock0, zg_nrock1, zg_nrock2, zg_nrock3, zg_nrock4, zg_nrock5, zg_nrock6, zg_nrock7, zg_nrock8, zg_nrock9, zg_nrock10, zg_nrock11, zg_nrock12, zg_nrock13, zg_nrock14, zg_ntug0, zg_ntug1, zg_ntug2, zg_ntug3, zg_ntug4, zg_ntug5, zg_ntug6, zg_ntug7, zg_ntug8, zg_ntug9, zg_ntug10, zg_ntug11, zg_ntug12, zg_ntug13, zg_ntug14, zg_ntug15, zg_ntug17, zg_ntug18, zg_ntug19, zg_ntug20, zg_ntug21, zg_ntug22, zg_ncon0, zg_ncon1, zg_ncon2, zg_ncon3, zg_ncon4, zg_ncon5, zg_ncon6, zg_nwin0, zg_nwin1, zg_nwin2, zg_nwin3, zg_nwin4, zg_nwin5, zg_ncode0, zg_ncode1, zg_ncode3, zg_nrule, zg_nstock, zg_nhold, zg_nknown, zg_nord, zg_nrep, zg_ncla, zg_ntou, zg_ncel, zu_nsun0, zu_nsun1, zu_nsun2, zu_nrock0, zu_nrock1, zu_nrock2, zu_nrock3, zu_nrock4, zu_nrock5, zu_nrock6, zu_nrock7, zu_nrock8, zu_nrock9, zu_nrock10, zu_nrock11, zu_nrock12, zu_nrock13, zu_nrock14, zu_ntug0, zu_ntug1, zu_ntug2, zu_ntug3, zu_ntug4, zu_ntug5, zu_ntug6, zu_ntug7, zu_ntug8, zu_ntug9, zu_ntug10, zu_ntug11, zu_ntug12, zu_ntug13, zu_ntug14, zu_ntug15, zu_ntug17, zu_ntug18, zu_ntug19, zu_ntug20, zu_ntug21, zu_ntug22, zu_ncon0, zu_ncon1, zu_ncon2, zu_ncon3, zu_ncon4, zu_ncon5, zu_ncon6, zu_nwin0, zu_nwin1, zu_nwin2, zu_nwin3, zu_nwin4, zu_nwin5, zu_ncode3, zu_nrule, zu_nstock, zu_nhold, zu_nknown, zu_nord, zu_nrep, zu_ncla, zu_ntou, zu_ncel]
theorem C51_stop (d L p0 p2 s4 : Nat) (u : Nat) (C : zCt) {p row U : Nat} (hp : p < 4) (hr : row ≤ U) (hU1 : U ≤ 120) (hU : C 0 0 (14 + p) = nI U) (x1 : Int32) {i : Nat} (hi : i ≤ 120) (hop : row < U → ¬ C (10 + p) row 0 = 15) : zR (d + 2) 51 4 [.ref (85 + 2 * p), .int x1, .int (nI row), .int (nI i)] [] (zZ L, zI C, zPd p0 p2 2 (45 + 4 * u) s4) = some (some (.int (nI row)), (zZ L, zI C, zPd p0 p2 2 (45 + 4 * u) s4)) := by
  by_cases hi2 : i = 120
  · subst hi2
    rw [e51_4, if_pos (by decide), e51_42]
  have h2 : ¬ (120 : Int32) ≤ nI i := nI_ge (b := 120) (by omega) (by decide)
  by_cases hr2 : row < U
  · have h1 : ¬ nI U ≤ nI row := nI_ge hr2 (by omega)
    have t0 := T44_0 (d + 1) L p0 p2 s4 u C hp hr2 hU1 hU
    have h3 := hop hr2
    rw [e51_4]
    simp +decide (disch := omega) only [T43c, t0, hU, h1, h2, h3, e51_10, e51_15, e51_18, e51_24, e51_42, zpre, ite_self, zs1, zs2, zs3, zI_eqb, and_self, not_true_eq_false, if_true, if_false, ite_true, ite_false, not_false_eq_true, zBP, zBZ, zisO, zisA, zlen, decide_true, decide_false, Bool.and_self, Bool.and_true, Bool.true_and, cond_true, cond_false, zBG, zBR, zBU, zBV, zinb_n, zix_n, zlA, zlB, zlM, zlN, zlX, zlI, nI_add, Nat.add_eq_zero_iff, false_and, and_false, and_true, true_and, true_or, or_true, false_or, or_false, zbool_i, zb0, zb1, zshp_0, zcs_eq, zcs_n, zcs_cs, zup_g, zup_n, zp2_sun, zp2_rock, zp2_tug, zp2_contract, zp2_window, zp2_code, zp2_rbody, zp2_rstock, zp2_tfree, zp2_thold, zp2_tknown, zp2_ccells, zsh2_sun, zsh2_rock, zsh2_body, zsh2_stock, zsh2_tug, zsh2_free, zsh2_hold, zsh2_known, zsh2_contract, zsh2_window, zsh2_code, zsh2_cells, zg_nsun0, zg_nsun1, zg_nsun2, zg_nrock0, zg_nrock1, zg_nrock2, zg_nrock3, zg_nrock4, zg_nrock5, zg_nrock6, zg_nrock7, zg_nrock8, zg_nrock9, zg_nrock10, zg_nrock11, zg_nrock12, zg_nrock13, zg_nrock14, zg_ntug0, zg_ntug1, zg_ntug2, zg_ntug3, zg_ntug4, zg_ntug5, zg_ntug6, zg_ntug7, zg_ntug8, zg_ntug9, zg_ntug10, zg_ntug11, zg_ntug12, zg_ntug13, zg_ntug14, zg_ntug15, zg_ntug17, zg_ntug18, zg_ntug19, zg_ntug20, zg_ntug21, zg_ntug22, zg_ncon0, zg_ncon1, zg_ncon2, zg_ncon3, zg_ncon4, zg_ncon5, zg_ncon6, zg_nwin0, zg_nwin1, zg_nwin2, zg_nwin3, zg_nwin4, zg_nwin5, zg_ncode0, zg_ncode1, zg_ncode3, zg_nrule, zg_nstock, zg_nhold, zg_nknown, zg_nord, zg_nrep, zg_ncla, zg_ntou, zg_ncel, zu_nsun0, zu_nsun1, zu_nsun2, zu_nrock0, zu_nrock1, zu_nrock2, zu_nrock3, zu_nrock4, zu_nrock5, zu_nrock6, zu_nrock7, zu_nrock8, zu_nrock9, zu_nrock10, zu_nrock11, zu_nrock12, zu_nrock13, zu_nrock14, zu_ntug0, zu_ntug1, zu_ntug2, zu_ntug3, zu_ntug4, zu_ntug5, zu_ntug6, zu_ntug7, zu_ntug8, zu_ntug9, zu_ntug10, zu_ntug11, zu_ntug12, zu_ntug13, zu_ntug14, zu_ntug15, zu_ntug17, zu_ntug18, zu_ntug19, zu_ntug20, zu_ntug21, zu_ntug22, zu_ncon0, zu_ncon1, zu_ncon2, zu_ncon3, zu_ncon4, zu_ncon5, zu_ncon6, zu_nwin0, zu_nwin1, zu_nwin2, zu_nwin3, zu_nwin4, zu_nwin5, zu_ncode3, zu_nrule, zu_nstock, zu_nhold, zu_nknown, zu_nord, zu_nrep, zu_ncla, zu_ntou, zu_ncel]
  · obtain rfl : row = U := by omega
    rw [e51_4]
    simp +decide (disch := omega) only [T43c, hU, h2, e51_10, e51_15, e51_42, Int32.le_refl, zpre, ite_self, zs1, zs2, zs3, zI_eqb, and_self, not_true_eq_false, if_true, if_false, ite_true, ite_false, not_false_eq_true, zBP, zBZ, zisO, zisA, zlen, decide_true, decide_false, Bool.and_self, Bool.and_true, Bool.true_and, cond_true, cond_false, zBG, zBR, zBU, zBV, zinb_n, zix_n, zlA, zlB, zlM, zlN, zlX, zlI, nI_add, Nat.add_eq_zero_iff, false_and, and_false, and_true, true_and, true_or, or_true, false_or, or_false, zbool_i, zb0, zb1, zshp_0, zcs_eq, zcs_n, zcs_cs, zup_g, zup_n, zp2_sun, zp2_rock, zp2_tug, zp2_contract, zp2_window, zp2_code, zp2_rbody, zp2_rstock, zp2_tfree, zp2_thold, zp2_tknown, zp2_ccells, zsh2_sun, zsh2_rock, zsh2_body, zsh2_stock, zsh2_tug, zsh2_free, zsh2_hold, zsh2_known, zsh2_contract, zsh2_window, zsh2_code, zsh2_cells, zg_nsun0, zg_nsun1, zg_nsun2, zg_nrock0, zg_nrock1, zg_nrock2, zg_nrock3, zg_nrock4, zg_nrock5, zg_nrock6, zg_nrock7, zg_nrock8, zg_nrock9, zg_nrock10, zg_nrock11, zg_nrock12, zg_nrock13, zg_nrock14, zg_ntug0, zg_ntug1, zg_ntug2, zg_ntug3, zg_ntug4, zg_ntug5, zg_ntug6, zg_ntug7, zg_ntug8, zg_ntug9, zg_ntug10, zg_ntug11, zg_ntug12, zg_ntug13, zg_ntug14, zg_ntug15, zg_ntug17, zg_ntug18, zg_ntug19, zg_ntug20, zg_ntug21, zg_ntug22, zg_ncon0, zg_ncon1, zg_ncon2, zg_ncon3, zg_ncon4, zg_ncon5, zg_ncon6, zg_nwin0, zg_nwin1, zg_nwin2, zg_nwin3, zg_nwin4, zg_nwin5, zg_ncode0, zg_ncode1, zg_ncode3, zg_nrule, zg_nstock, zg_nhold, zg_nknown, zg_nord, zg_nrep, zg_ncla, zg_ntou, zg_ncel, zu_nsun0, zu_nsun1, zu_nsun2, zu_nrock0, zu_nrock1, zu_nrock2, zu_nrock3, zu_nrock4, zu_nrock5, zu_nrock6, zu_nrock7, zu_nrock8, zu_nrock9, zu_nrock10, zu_nrock11, zu_nrock12, zu_nrock13, zu_nrock14, zu_ntug0, zu_ntug1, zu_ntug2, zu_ntug3, zu_ntug4, zu_ntug5, zu_ntug6, zu_ntug7, zu_ntug8, zu_ntug9, zu_ntug10, zu_ntug11, zu_ntug12, zu_ntug13, zu_ntug14, zu_ntug15, zu_ntug17, zu_ntug18, zu_ntug19, zu_ntug20, zu_ntug21, zu_ntug22, zu_ncon0, zu_ncon1, zu_ncon2, zu_ncon3, zu_ncon4, zu_ncon5, zu_ncon6, zu_nwin0, zu_nwin1, zu_nwin2, zu_nwin3, zu_nwin4, zu_nwin5, zu_ncode3, zu_nrule, zu_nstock, zu_nhold, zu_nknown, zu_nord, zu_nrep, zu_ncla, zu_ntou, zu_ncel]
theorem M208_j (d L p0 p2 r2 r3 s4 : Nat) {u : Nat} (hu : u < 4) (C : zCt) {p k N g : Nat} (hp : p < 4) (hN : N ≤ 120) (hg : g < 30) (h10 : C 43 u 10 = nI p) (h15 : C 43 u 15 = nI k) (hn : C 40 0 (14 + p) = nI N) (v5 v6 : Value) (hk : k < N) (hop : C (50 + p) k 0 = 14) : ∃ v5' v6', zR (d + 6) 208 14 [.ref 201, .int (nI u), .int (nI (160 + 28 * u)), .int (nI g), .int 1, v5, v6] [] (zZ L, zI C, zPd p0 p2 r2 r3 s4) = zR (d + 6) 208 14 [.ref 201, .int (nI u), .int (nI (160 + 28 * u)), .int (nI g), .int 1, v5', v6'] [] (zZ L, zI (zcs C 43 (zup (C 43) u 15 (C (50 + p) k 1))), zPd p0 p2 r2 r3 s4) := by
  have h1 : ¬ (30 : Int32) ≤ nI g := nI_ge (b := 30) hg (by decide)
  have h2 : ¬ nI p = -1 := by rw [nI_m (by omega)]; exact id
  have h3 : nI k < nI N := nI_lt hk (by omega)
  have h3' : ¬ nI N ≤ nI k := nI_ge hk (by omega)
  have e1 : zI C 202 (1086 + 782 * p + 2 + 4 * k) = C (50 + p) k 0 := zg_sstp C hp (by omega) (by decide) (c := 0)
  refine ⟨.int (nI (1086 + 782 * p)), .int 2, ?_⟩
  rw [e208_14v]
  simp +decide (disch := omega) only [e208_19, e208_25, e208_38, e208_89, e208_110, e208_117, e208_122, e208_135, e208_136, e209_0, e209_50, e209_73, e209_79, e209_104, e209_107, e209_130, e209_133, e209_136, e209_139, e209_145, e209_150, e209_153, e209_158, e209_162, e209_167, e209_173, e209_178, e209_181, e209_187, e209_192, e209_195, e209_202, e209_207, e209_210, e209_217, e209_222, e209_225, e209_232, e209_237, e209_240, e209_247, e209_252, e209_255, e209_262, e209_267, e209_270, e209_277, e209_300, e209_303, e209_307, e209_308, e209_317, e209_321, e209_322, e209_328, e209_335, e209_361, e209_364, e209_369, e209_377, e209_382, e209_389, e209_402, h1, h2, h3, h3', h10, h15, hn, e1, hop, Int32.add_zero, zpre, ite_self, Nat.reduceAdd, zs1, zs2, zs3, zI_eqb, and_self, not_true_eq_false, if_true, if_false, ite_true, ite_false, not_false_eq_true, zBP, zBZ, zisO, zisA, zlen, decide_true, decide_false, Bool.and_self, Bool.and_true, Bool.true_and, cond_true, cond_false, zBG, zBR, zBU, zBV, zinb_n, zix_n, zlA, zlB, zlM, zlN, zlX, zlI, nI_add, Nat.add_eq_zero_iff, false_and, and_false, and_true, true_and, true_or, or_true, false_or, or_false, zbool_i, zb0, zb1, zshp_0, zcs_eq, zcs_n, zcs_cs, zup_g, zup_n, zg_srock2, zg_stug2, zg_ssun, zg_ssun0, zg_srock, zg_srock0, zg_stug, zg_stug0, zg_sord, zg_sord0, zg_srep, zg_srep0, zg_scla, zg_scla0, zg_scon, zg_scon0, zg_swin, zg_swin0, zg_sleg, zg_sleg0, zg_spro, zg_sstp, zg_swrd, zu_srock2, zu_stug2, zu_ssun, zu_ssun0, zu_srock, zu_srock0, zu_stug, zu_stug0, zu_sord, zu_sord0, zu_srep, zu_srep0, zu_scla, zu_scla0, zu_scon, zu_scon0, zu_swin, zu_swin0, zu_sleg, zu_sleg0, zu_spro, zu_sstp, zu_swrd]
theorem zcs_set2 (C : zCt) (u f : Nat) (a b : Int32) : zcs (zcs C 43 (zup (C 43) u f a)) 43 (zup (zup (C 43) u f a) u f b) = zcs C 43 (zup (C 43) u f b) := by
  rw [zcs_cs]
  congr 1
  funext x y
  by_cases e : x = u ∧ y = f
  · obtain ⟨rfl, rfl⟩ := e; rw [zup_g, zup_g]
  · unfold zup; rw [if_neg e, if_neg e, if_neg e]
theorem JC (d1 d2 L p0 p2 r2 r3 s4 : Nat) {u : Nat} (hu : u < 4) (Ca Cb : zCt) {p N g : Nat} {w : Nat → Nat} (hp : p < 4) (hN : N ≤ 120) (hg : g < 30) (h10 : Cb 43 u 10 = nI p) (hn : Cb 40 0 (14 + p) = nI N) (hU : Ca 0 0 (14 + p) = nI (N + w N)) (hU1 : N + w N ≤ 120) (hm : ∀ k, k < N → w k ≤ w (k + 1)) (hL : ∀ k, k < N → (∀ j, w k ≤ j → j < w (k + 1) → zwr (Ca (10 + p) (k + j) 0) (Ca (10 + p) (k + j) 1) (Cb (54 + p) j 0) (Cb (54 + p) j 1)) ∧ zsr (Cb (50 + p)) (Cb (54 + p)) w N k (Ca (10 + p) (k + w (k + 1)) 0) (Ca (10 + p) (k + w (k + 1)) 1)) (x1 : Int32) : ∀ (m k i : Nat) (v5 v6 : Value), N - k ≤ m → k ≤ N → i + (N - k) ≤ 120 → ∃ (k' : Nat) (v5' v6' : Value), k' ≤ N ∧ (k' < N → ¬ Cb (50 + p) k' 0 = 14) ∧ zR (d1 + 2) 51 4 [.ref (85 + 2 * p), .int x1, .int (nI (k + w k)), .int (nI i)] [] (zZ L, zI Ca, zPd p0 p2 2 (45 + 4 * u) s4) = some (some (.int (nI (k' + w k'))), (zZ L, zI Ca, zPd p0 p2 2 (45 + 4 * u) s4)) ∧ zR (d2 + 6) 208 14 [.ref 201, .int (nI u), .int (nI (160 + 28 * u)), .int (nI g), .int 1, v5, v6] [] (zZ L, zI (zcs Cb 43 (zup (Cb 43) u 15 (nI k))), zPd p0 p2 r2 r3 s4) = zR (d2 + 6) 208 14 [.ref 201, .int (nI u), .int (nI (160 + 28 * u)), .int (nI g), .int 1, v5', v6'] [] (zZ L, zI (zcs Cb 43 (zup (Cb 43) u 15 (nI k'))), zPd p0 p2 r2 r3 s4) := by
  have hstop : ∀ k, k ≤ N → (k < N → ¬ Cb (50 + p) k 0 = 14) → ∀ i, i ≤ 120 → zR (d1 + 2) 51 4 [.ref (85 + 2 * p), .int x1, .int (nI (k + w k)), .int (nI i)] [] (zZ L, zI Ca, zPd p0 p2 2 (45 + 4 * u) s4) = some (some (.int (nI (k + w k))), (zZ L, zI Ca, zPd p0 p2 2 (45 + 4 * u) s4)) := by
    intro k hk hne i hi
    have hwk := zmonw hm hk (Nat.le_refl N)
    refine C51_stop d1 L p0 p2 s4 u Ca hp (by omega) hU1 hU x1 hi (fun hlt => ?_)
    by_cases hkN : k < N
    · exact zL_nj (hm k hkN) (hL k hkN).1 (hL k hkN).2 (hne hkN)
    · obtain rfl : k = N := by omega
      omega
  intro m
  induction m with
  | zero =>
    intro k i v5 v6 h1 h2 h3
    obtain rfl : k = N := by omega
    exact ⟨k, v5, v6, Nat.le_refl _, fun e => absurd e (by omega), hstop k (Nat.le_refl _) (fun e => absurd e (by omega)) i (by omega), rfl⟩
  | succ m IH =>
    intro k i v5 v6 h1 h2 h3
    by_cases hkN : k < N
    case neg =>
      obtain rfl : k = N := by omega
      exact ⟨k, v5, v6, Nat.le_refl _, fun e => absurd e (by omega), hstop k (Nat.le_refl _) (fun e => absurd e (by omega)) i (by omega), rfl⟩
    by_cases hj : Cb (50 + p) k 0 = 14
    case neg => exact ⟨k, v5, v6, h2, fun _ => hj, hstop k h2 (fun _ => hj) i (by omega), rfl⟩
    obtain ⟨o1, o2, T, hT, eT, aT, hor⟩ := zL_j (hL k hkN).2 hj
    have hwk := zmonw hm (Nat.le_of_lt hkN) (Nat.le_refl N)
    rw [o2] at o1 aT
    have hc := C51_go d1 L p0 p2 s4 u Ca hp (row := k + w k) (U := N + w N) (by omega) hU1 hU x1 (i := i) (by omega) o1
    rw [aT] at hc
    obtain ⟨z5, z6, hmo⟩ := M208_j d2 L p0 p2 r2 r3 s4 hu (zcs Cb 43 (zup (Cb 43) u 15 (nI k))) (g := g) hp hN hg (by rw [zcs_eq, zup_n _ _ (by omega)]; exact h10) (by rw [zcs_eq, zup_g]) (by rw [zcs_n _ _ (by decide)]; exact hn) v5 v6 hkN (by rw [zcs_n _ _ (by omega)]; exact hj)
    rw [zcs_n (x := 50 + p) _ _ (by omega), eT, zcs_eq, zcs_set2] at hmo
    rcases hor with hf | ⟨hb, h13⟩
    · obtain ⟨k', v5', v6', q1, q2, q3, q4⟩ := IH T (i + 1) z5 z6 (by omega) hT (by omega)
      exact ⟨k', v5', v6', q1, q2, hc.trans q3, hmo.trans q4⟩
    · have hne : T < N → ¬ Cb (50 + p) T 0 = 14 := fun _ e => by rw [h13] at e; exact absurd e (by decide)
      exact ⟨T, z5, z6, hT, hne, hc.trans (hstop T hT hne (i + 1) (by omega)), hmo⟩
