/-! THE PROGRAM: the whole text, printed by wip/gen/pub86.py -/
theorem zadv_n0 {T : Nat → Nat} {n : Nat} {x : zLx} (h : x.2.2 = 0) : (zadv T n x).2.2 ≠ 5 := by
  unfold zadv zadf
  have := zsrt_r (T (zfr T n x))
  rw [h]
  split
  · show (0 : Nat) ≠ 5; decide
  split
  · show (3 : Nat) ≠ 5; decide
  split
  · rename_i q; exact absurd q.1 (by decide)
  split
  · show (4 : Nat) ≠ 5; decide
  · show zsrt _ ≠ 5; omega
theorem zadv_f (T : Nat → Nat) (n a b k : Nat) : zadv T n (a, b, k) = zadv T n (0, b, k) := rfl
theorem nI_sur (v : Int32) : ∃ k, v = nI k := ⟨v.toBitVec.toNat, by
  show v = Int32.ofNat _
  apply Int32.toBitVec_inj.mp
  rw [Int32.toBitVec_ofNat', BitVec.ofNat_toNat, BitVec.setWidth_eq]⟩
/-- the class begins to read -/
theorem C13_a (d L p p0 p2 r2 r3 s4 : Nat) (hp : p < 4) (C : zCt) {T : Nat → Nat} {n : Nat} (hn : n ≤ 120) (hT : ∀ k, k < n → C 384 0 k = nI (T k) ∧ T k < 256) : ∃ C1, zR (d + 3) 13 0 [.ref 190, .ref 184, .int (nI n), .ref (85 + 2 * p)] [] (zZ L, zI C, zPd p0 p2 r2 r3 s4) = zR (d + 3) 13 58 [.ref 190, .ref 184, .int (nI n), .ref (85 + 2 * p)] [] (zZ L, zI C1, zPd 184 (85 + 2 * p) r2 r3 s4) ∧ zPC T n C1 (zadv T n (0, 0, 0)) ∧ C1 390 0 6 = nI 0 ∧ C1 390 0 7 = nI 0 ∧ C1 390 0 8 = nI 0 ∧ C1 390 0 9 = nI 0 ∧ C1 0 0 (14 + p) = nI 0 ∧ zFC p C C1 := by
  have c1 : ¬ nI 120 < nI n := Int32.not_lt.mpr (nI_le hn (by decide))
  obtain ⟨C0, hC0⟩ : ∃ C0, C0 = (zcs (zcs C 390 (zup (C 390) 0 1 (nI n))) 0 (zup (C 0) 0 (14 + p) 0)) := ⟨_, rfl⟩
  have t0 : zR (d + 3) 13 0 [.ref 190, .ref 184, .int (nI n), .ref (85 + 2 * p)] [] (zZ L, zI C, zPd p0 p2 r2 r3 s4) = zR (d + 3) 13 24 [.ref 190, .ref 184, .int (nI n), .ref (85 + 2 * p)] [] (zZ L, zI C0, zPd 184 (85 + 2 * p) r2 r3 s4) := by
    rw [hC0]
    simp +decide (disch := omega) only [e13_0, e40_0, c1, zPu_p0, zPu_p2, zpre, ite_self, zs1, zs2, zs3, zI_eqb, and_self, not_true_eq_false, if_true, if_false, ite_true, ite_false, not_false_eq_true, zBP, zBZ, zisO, zisA, zlen, decide_true, decide_false, Bool.and_self, Bool.and_true, Bool.true_and, cond_true, cond_false, zBG, zBR, zBU, zBV, zinb_n, zix_n, zlA, zlB, zlM, zlN, zlX, zlI, nI_add, Nat.add_eq_zero_iff, false_and, and_false, and_true, true_and, true_or, or_true, false_or, or_false, zbool_i, zb0, zb1, zshp_0, zcs_eq, zcs_n, zcs_cs, zup_g, zup_n, zp2_sun, zp2_rock, zp2_tug, zp2_contract, zp2_window, zp2_code, zp2_rbody, zp2_rstock, zp2_tfree, zp2_thold, zp2_tknown, zp2_ccells, zsh2_sun, zsh2_rock, zsh2_body, zsh2_stock, zsh2_tug, zsh2_free, zsh2_hold, zsh2_known, zsh2_contract, zsh2_window, zsh2_code, zsh2_cells, zg_nsun0, zg_nsun1, zg_nsun2, zg_nrock0, zg_nrock1, zg_nrock2, zg_nrock3, zg_nrock4, zg_nrock5, zg_nrock6, zg_nrock7, zg_nrock8, zg_nrock9, zg_nrock10, zg_nrock11, zg_nrock12, zg_nrock13, zg_nrock14, zg_ntug0, zg_ntug1, zg_ntug2, zg_ntug3, zg_ntug4, zg_ntug5, zg_ntug6, zg_ntug7, zg_ntug8, zg_ntug9, zg_ntug10, zg_ntug11, zg_ntug12, zg_ntug13, zg_ntug14, zg_ntug15, zg_ntug17, zg_ntug18, zg_ntug19, zg_ntug20, zg_ntug21, zg_ntug22, zg_ncon0, zg_ncon1, zg_ncon2, zg_ncon3, zg_ncon4, zg_ncon5, zg_ncon6, zg_nwin0, zg_nwin1, zg_nwin2, zg_nwin3, zg_nwin4, zg_nwin5, zg_ncode0, zg_ncode1, zg_ncode3, zg_nrule, zg_nstock, zg_nhold, zg_nknown, zg_nord, zg_nrep, zg_ncla, zg_ntou, zg_ncel, zu_nsun0, zu_nsun1, zu_nsun2, zu_nrock0, zu_nrock1, zu_nrock2, zu_nrock3, zu_nrock4, zu_nrock5, zu_nrock6, zu_nrock7, zu_nrock8, zu_nrock9, zu_nrock10, zu_nrock11, zu_nrock12, zu_nrock13, zu_nrock14, zu_ntug0, zu_ntug1, zu_ntug2, zu_ntug3, zu_ntug4, zu_ntug5, zu_ntug6, zu_ntug7, zu_ntug8, zu_ntug9, zu_ntug10, zu_ntug11, zu_ntug12, zu_ntug13, zu_ntug14, zu_ntug15, zu_ntug17, zu_ntug18, zu_ntug19, zu_ntug20, zu_ntug21, zu_ntug22, zu_ncon0, zu_ncon1, zu_ncon2, zu_ncon3, zu_ncon4, zu_ncon5, zu_ncon6, zu_nwin0, zu_nwin1, zu_nwin2, zu_nwin3, zu_nwin4, zu_nwin5, zu_ncode3, zu_nrule, zu_nstock, zu_nhold, zu_nknown, zu_nord, zu_nrep, zu_ncla, zu_ntou, zu_ncel]
  obtain ⟨C2, hC2⟩ : ∃ C2, C2 = (zcs C0 390 (zup (zup (zup (zup (zup (zup (C0 390) 0 5 0) 0 3 0) 0 6 0) 0 7 0) 0 8 0) 0 9 0)) := ⟨_, rfl⟩
  obtain ⟨a, ha⟩ := nI_sur (C2 390 0 4)
  have hL : zLT_ T n C2 := by
    refine ⟨?_, hn, ?_⟩
    · rw [hC2, zcs_eq, zup_n _ _ (by omega), zup_n _ _ (by omega), zup_n _ _ (by omega), zup_n _ _ (by omega), zup_n _ _ (by omega), zup_n _ _ (by omega), hC0, zcs_n _ _ (by decide), zcs_eq, zup_g]
    · intro k hk
      rw [hC2, zcs_n _ _ (by decide), hC0, zcs_n _ _ (by decide), zcs_n _ _ (by decide)]
      exact hT k hk
  have g5 : C2 390 0 5 = nI 0 := by rw [hC2, zcs_eq, zup_n _ _ (by omega), zup_n _ _ (by omega), zup_n _ _ (by omega), zup_n _ _ (by omega), zup_n _ _ (by omega), zup_g]; rfl
  have g3 : C2 390 0 3 = nI 0 := by rw [hC2, zcs_eq, zup_n _ _ (by omega), zup_n _ _ (by omega), zup_n _ _ (by omega), zup_n _ _ (by omega), zup_g]; rfl
  have g6 : C2 390 0 6 = nI 0 := by rw [hC2, zcs_eq, zup_n _ _ (by omega), zup_n _ _ (by omega), zup_n _ _ (by omega), zup_g]; rfl
  have g7 : C2 390 0 7 = nI 0 := by rw [hC2, zcs_eq, zup_n _ _ (by omega), zup_n _ _ (by omega), zup_g]; rfl
  have g8 : C2 390 0 8 = nI 0 := by rw [hC2, zcs_eq, zup_n _ _ (by omega), zup_g]; rfl
  have g9 : C2 390 0 9 = nI 0 := by rw [hC2, zcs_eq, zup_g]; rfl
  have hp2 : zPC T n C2 (a, 0, 0) := ⟨hL, g3, ha, g5⟩
  obtain ⟨F, t1, f1, f2⟩ := C14 d L p r2 r3 s4 C2 hp2 (Nat.zero_le _) (by show (0 : Nat) ≤ 3; decide)
  rw [zadv_f] at f1
  refine ⟨zcs C2 390 F, ?_, f1, ?_, ?_, ?_, ?_, ?_, ?_⟩
  · rw [t0, e13_24, show zcs C2 390 F = zcs C0 390 F from by rw [hC2, zcs_cs]]
    rw [hC2] at t1
    simp +decide (disch := omega) only [t1, List.cons_append, List.nil_append, zpre, ite_self, zs1, zs2, zs3, zI_eqb, and_self, not_true_eq_false, if_true, if_false, ite_true, ite_false, not_false_eq_true, zBP, zBZ, zisO, zisA, zlen, decide_true, decide_false, Bool.and_self, Bool.and_true, Bool.true_and, cond_true, cond_false, zBG, zBR, zBU, zBV, zinb_n, zix_n, zlA, zlB, zlM, zlN, zlX, zlI, nI_add, Nat.add_eq_zero_iff, false_and, and_false, and_true, true_and, true_or, or_true, false_or, or_false, zbool_i, zb0, zb1, zshp_0, zcs_eq, zcs_n, zcs_cs, zup_g, zup_n, zp2_sun, zp2_rock, zp2_tug, zp2_contract, zp2_window, zp2_code, zp2_rbody, zp2_rstock, zp2_tfree, zp2_thold, zp2_tknown, zp2_ccells, zsh2_sun, zsh2_rock, zsh2_body, zsh2_stock, zsh2_tug, zsh2_free, zsh2_hold, zsh2_known, zsh2_contract, zsh2_window, zsh2_code, zsh2_cells, zg_nsun0, zg_nsun1, zg_nsun2, zg_nrock0, zg_nrock1, zg_nrock2, zg_nrock3, zg_nrock4, zg_nrock5, zg_nrock6, zg_nrock7, zg_nrock8, zg_nrock9, zg_nrock10, zg_nrock11, zg_nrock12, zg_nrock13, zg_nrock14, zg_ntug0, zg_ntug1, zg_ntug2, zg_ntug3, zg_ntug4, zg_ntug5, zg_ntug6, zg_ntug7, zg_ntug8, zg_ntug9, zg_ntug10, zg_ntug11, zg_ntug12, zg_ntug13, zg_ntug14, zg_ntug15, zg_ntug17, zg_ntug18, zg_ntug19, zg_ntug20, zg_ntug21, zg_ntug22, zg_ncon0, zg_ncon1, zg_ncon2, zg_ncon3, zg_ncon4, zg_ncon5, zg_ncon6, zg_nwin0, zg_nwin1, zg_nwin2, zg_nwin3, zg_nwin4, zg_nwin5, zg_ncode0, zg_ncode1, zg_ncode3, zg_nrule, zg_nstock, zg_nhold, zg_nknown, zg_nord, zg_nrep, zg_ncla, zg_ntou, zg_ncel, zu_nsun0, zu_nsun1, zu_nsun2, zu_nrock0, zu_nrock1, zu_nrock2, zu_nrock3, zu_nrock4, zu_nrock5, zu_nrock6, zu_nrock7, zu_nrock8, zu_nrock9, zu_nrock10, zu_nrock11, zu_nrock12, zu_nrock13, zu_nrock14, zu_ntug0, zu_ntug1, zu_ntug2, zu_ntug3, zu_ntug4, zu_ntug5, zu_ntug6, zu_ntug7, zu_ntug8, zu_ntug9, zu_ntug10, zu_ntug11, zu_ntug12, zu_ntug13, zu_ntug14, zu_ntug15, zu_ntug17, zu_ntug18, zu_ntug19, zu_ntug20, zu_ntug21, zu_ntug22, zu_ncon0, zu_ncon1, zu_ncon2, zu_ncon3, zu_ncon4, zu_ncon5, zu_ncon6, zu_nwin0, zu_nwin1, zu_nwin2, zu_nwin3, zu_nwin4, zu_nwin5, zu_ncode3, zu_nrule, zu_nstock, zu_nhold, zu_nknown, zu_nord, zu_nrep, zu_ncla, zu_ntou, zu_ncel]
  · rw [zcs_eq, f2 6 (by decide) (by decide) (by decide)]; exact g6
  · rw [zcs_eq, f2 7 (by decide) (by decide) (by decide)]; exact g7
  · rw [zcs_eq, f2 8 (by decide) (by decide) (by decide)]; exact g8
  · rw [zcs_eq, f2 9 (by decide) (by decide) (by decide)]; exact g9
  · rw [zcs_n _ _ (by decide), hC2, zcs_n _ _ (by decide), hC0, zcs_eq, zup_g]; rfl
  · refine ⟨fun g a b c => ?_, fun f hf => ?_⟩
    · rw [zcs_n _ _ b, hC2, zcs_n _ _ b, hC0, zcs_n _ _ a, zcs_n _ _ b]
    · rw [zcs_n _ _ (by decide), hC2, zcs_n _ _ (by decide), hC0, zcs_eq, zup_n _ _ (by omega)]

theorem M179_a (d L p0 p2 r2 r3 s4 : Nat) (C : zCt) {T : Nat → Nat} {n : Nat} (hn : n ≤ 120) (h7 : C 401 0 7 = nI n) (hT : ∀ k, k < n → C 404 0 k = nI (T k) ∧ T k < 256) : ∃ C1, zR (d + 8) 179 0 [.ref 201, zmk] [] (zZ L, zI C, zPd p0 p2 r2 r3 s4) = zR (d + 8) 179 46 [.ref 201, .int 1] [] (zZ L, zI C1, zPd p0 p2 r2 r3 s4) ∧ zMS T n C1 (zadv T n (0, 0, 0)) 0 0 0 [] 0 ∧ zFS 0 0 C C1 := by
  obtain ⟨C2, hC2⟩ : ∃ C2, C2 = (zcs C 401 (zup (zup (zup (zup (zup (zup (zup (zup (C 401) 0 6 0) 0 8 0) 0 10 0) 0 13 0) 0 14 0) 0 15 0) 0 18 0) 0 19 0)) := ⟨_, rfl⟩
  obtain ⟨a, ha⟩ := nI_sur (C2 401 0 5)
  have hM : zPM T n C2 (a, 0, 0) := by
    refine ⟨⟨?_, hn, fun k hk => ?_⟩, ?_, ha, ?_, ?_⟩
    · rw [hC2, zcs_eq, zup_n _ _ (by omega), zup_n _ _ (by omega), zup_n _ _ (by omega), zup_n _ _ (by omega), zup_n _ _ (by omega), zup_n _ _ (by omega), zup_n _ _ (by omega), zup_n _ _ (by omega)]; exact h7
    · rw [hC2, zcs_n _ _ (by decide)]; exact hT k hk
    · rw [hC2, zcs_eq, zup_n _ _ (by omega), zup_n _ _ (by omega), zup_n _ _ (by omega), zup_n _ _ (by omega), zup_n _ _ (by omega), zup_n _ _ (by omega), zup_g]; rfl
    · rw [hC2, zcs_eq, zup_n _ _ (by omega), zup_n _ _ (by omega), zup_n _ _ (by omega), zup_n _ _ (by omega), zup_n _ _ (by omega), zup_n _ _ (by omega), zup_n _ _ (by omega), zup_g]; rfl
    · rw [hC2, zcs_eq, zup_n _ _ (by omega), zup_n _ _ (by omega), zup_n _ _ (by omega), zup_n _ _ (by omega), zup_n _ _ (by omega), zup_g]
  have n2 : zm5 C2 0 0 0 [] 0 := by
    refine ⟨?_, ?_, ?_, ?_, Nat.zero_le _, trivial, ?_⟩
    · rw [hC2, zcs_eq, zup_n _ _ (by omega), zup_n _ _ (by omega), zup_n _ _ (by omega), zup_n _ _ (by omega), zup_g]; rfl
    · rw [hC2, zcs_eq, zup_n _ _ (by omega), zup_n _ _ (by omega), zup_n _ _ (by omega), zup_g]; rfl
    · rw [hC2, zcs_eq, zup_n _ _ (by omega), zup_n _ _ (by omega), zup_g]; rfl
    · rw [hC2, zcs_eq, zup_n _ _ (by omega), zup_g]; rfl
    · rw [hC2, zcs_eq, zup_g]
  have fr : zFS 0 0 C C2 := by
    rw [hC2]
    exact zFS_4 (fun f a0 a1 a2 a3 a4 a5 a6 a7 a8 a9 a10 a11 a12 => by rw [zup_n _ _ (by omega), zup_n _ _ (by omega), zup_n _ _ (by omega), zup_n _ _ (by omega), zup_n _ _ (by omega), zup_n _ _ (by omega), zup_n _ _ (by omega), zup_n _ _ (by omega)])
  obtain ⟨F, t1, f2, f3⟩ := M180 (d + 5) L p0 p2 r2 r3 s4 C2 hM (Nat.zero_le _) (by show (0 : Nat) ≤ 3; decide)
  rw [zadv_f] at f2
  rcases f2 with ⟨_, f2⟩ | ⟨e5, _⟩
  case inr => exact absurd e5 (zadv_n0 rfl)
  refine ⟨zcs C2 401 F, ?_, zMS_of f2 (zm5_4 n2 f3) (Nat.zero_le _), zFS_t fr (zFS_M f3) (Nat.le_refl _) (Nat.le_refl _)⟩
  rw [e179_0]
  rw [hC2] at t1 ⊢
  simp +decide (disch := omega) only [e179_44, t1, List.cons_append, List.nil_append, zpre, ite_self, Nat.reduceAdd, zs1, zs2, zs3, zI_eqb, and_self, not_true_eq_false, if_true, if_false, ite_true, ite_false, not_false_eq_true, zBP, zBZ, zisO, zisA, zlen, decide_true, decide_false, Bool.and_self, Bool.and_true, Bool.true_and, cond_true, cond_false, zBG, zBR, zBU, zBV, zinb_n, zix_n, zlA, zlB, zlM, zlN, zlX, zlI, nI_add, Nat.add_eq_zero_iff, false_and, and_false, and_true, true_and, true_or, or_true, false_or, or_false, zbool_i, zb0, zb1, zshp_0, zcs_eq, zcs_n, zcs_cs, zup_g, zup_n, zg_srock2, zg_stug2, zg_ssun, zg_ssun0, zg_srock, zg_srock0, zg_stug, zg_stug0, zg_sord, zg_sord0, zg_srep, zg_srep0, zg_scla, zg_scla0, zg_scon, zg_scon0, zg_swin, zg_swin0, zg_sleg, zg_sleg0, zg_spro, zg_sstp, zg_swrd, zu_srock2, zu_stug2, zu_ssun, zu_ssun0, zu_srock, zu_srock0, zu_stug, zu_stug0, zu_sord, zu_sord0, zu_srep, zu_srep0, zu_scla, zu_scla0, zu_scon, zu_scon0, zu_swin, zu_swin0, zu_sleg, zu_sleg0, zu_spro, zu_sstp, zu_swrd]

