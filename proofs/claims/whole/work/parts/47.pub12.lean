/-! PAIRS OF CALLS (12), printed by wip/gen/pub12.py -/
theorem e176_18v (d : Nat) (Z : List (Nat × Nat)) (I : Nat → Nat → Int32) (P : Nat → Nat → Nat) (r0 : Nat) (x1 x2 x3 x4 : Int32) (v5 : Value) : zR d 176 18 [.ref r0, .int x1, .int x2, .int x3, .int x4, v5] [] (Z, I, P) = (if 12 ≤ x4 then zR d 176 84 [.ref r0, .int x1, .int x2, .int x3, .int x4, v5] [] (Z, I, P) else zR d 176 25 [.ref r0, .int x1, .int x2, .int x3, .int x4, v5] [] (Z, I, P)) := zE_br (g := true) (p := 12 ≤ x4) (t := 84) (f := 25) zK176 rfl zi176 10 3 rfl
theorem zbyr (x : Int32) : ∃ n, n < 256 ∧ x &&& 255 = nI n := by
  refine ⟨(x &&& 255).toBitVec.toNat, ?_, ?_⟩
  · show (x.toBitVec &&& 255#32).toNat < 256
    rw [BitVec.toNat_and]
    exact Nat.lt_succ_of_le Nat.and_le_right
  · apply Int32.toBitVec_inj.mp
    apply BitVec.eq_of_toNat_eq
    show _ = (BitVec.ofNat 32 _).toNat
    rw [BitVec.toNat_ofNat]
    exact (Nat.mod_eq_of_lt (x &&& 255).toBitVec.isLt).symm
theorem zshb (x : BitVec 32) (s : Nat) (hs : s ≤ 24) : (x >>> s) &&& 255#32 = (x.sshiftRight s) &&& 255#32 := by
  apply BitVec.eq_of_getLsbD_eq
  intro i hi
  rw [BitVec.getLsbD_and, BitVec.getLsbD_and, BitVec.getLsbD_ushiftRight, BitVec.getLsbD_sshiftRight]
  by_cases h : i < 8
  · have h1 : s + i < 32 := by omega
    rw [if_pos h1]
    have h2 : decide (32 ≤ i) = false := decide_eq_false (by omega)
    rw [h2]
    rfl
  · have h2 : (255#32).getLsbD i = false := by
      have := (by decide +kernel : ∀ i, i < 32 → ¬ i < 8 → (255#32).getLsbD i = false)
      exact this i hi h
    rw [h2, Bool.and_false, Bool.and_false]
theorem zshB (x : Int32) : ((Int32.toUInt32 x >>> (Int32.toUInt32 24 &&& Int32.toUInt32 31)).toInt32) &&& 255 = (x >>> (24 : Int32)) &&& 255 ∧ ((Int32.toUInt32 x >>> (Int32.toUInt32 16 &&& Int32.toUInt32 31)).toInt32) &&& 255 = (x >>> (16 : Int32)) &&& 255 ∧ ((Int32.toUInt32 x >>> (Int32.toUInt32 8 &&& Int32.toUInt32 31)).toInt32) &&& 255 = (x >>> (8 : Int32)) &&& 255 ∧ ((Int32.toUInt32 x >>> (Int32.toUInt32 0 &&& Int32.toUInt32 31)).toInt32) &&& 255 = (x >>> (0 : Int32)) &&& 255 := by
  refine ⟨?_, ?_, ?_, ?_⟩
  · exact Int32.toBitVec_inj.mp (zshb x.toBitVec 24 (by decide))
  · exact Int32.toBitVec_inj.mp (zshb x.toBitVec 16 (by decide))
  · exact Int32.toBitVec_inj.mp (zshb x.toBitVec 8 (by decide))
  · exact Int32.toBitVec_inj.mp (zshb x.toBitVec 0 (by decide))
theorem zsh8 : (24 : Int32) + -8 = 16 ∧ (16 : Int32) + -8 = 8 ∧ (8 : Int32) + -8 = 0 ∧ (0 : Int32) + -8 = -8 := by decide
def zsh (k : Nat) : Int32 := if k % 4 = 0 then 24 else if k % 4 = 1 then 16 else if k % 4 = 2 then 8 else 0
theorem zshm : ∀ k, k < 12 → ((24 - ((nI k - nI k / 4 * 4) * 8)) &&& 31 : Int32) = zsh k := by decide +kernel
def zby (x : Int32) (k : Nat) : Int32 := (x >>> zsh k) &&& 255
/-- cells lo .. hi-1 of row 0 out of B -/
def zfF (a : zGp) (B : Nat → Int32) (lo hi : Nat) : zGp := fun i f => if i = 0 ∧ lo ≤ f ∧ f < hi then B f else a i f
theorem zfF_in {a : zGp} {B : Nat → Int32} {lo hi f : Nat} (h : lo ≤ f ∧ f < hi) : zfF a B lo hi 0 f = B f := if_pos ⟨rfl, h⟩
theorem zfF_out {a : zGp} {B : Nat → Int32} {lo hi i f : Nat} (h : ¬ (lo ≤ f ∧ f < hi)) : zfF a B lo hi i f = a i f := if_neg fun e => h e.2
theorem zfF_0 (a : zGp) (B : Nat → Int32) (m : Nat) : zfF a B m m = a := by
  funext i f
  exact if_neg (fun e => by omega)
theorem zfF_st (a : zGp) (B : Nat → Int32) (k m : Nat) (h : k < m) (v : Int32) (hv : v = B k) : zfF (zup a 0 k v) B (k + 1) m = zfF a B k m := by
  funext i f
  unfold zfF zup
  by_cases h1 : i = 0 ∧ k + 1 ≤ f ∧ f < m
  · rw [if_pos h1, if_pos ⟨h1.1, by omega, h1.2.2⟩]
  · rw [if_neg h1]
    by_cases h2 : i = 0 ∧ f = k
    · rw [if_pos h2, if_pos ⟨h2.1, by omega, by omega⟩, h2.2, hv]
    · rw [if_neg h2, if_neg]
      rintro ⟨e1, e2, e3⟩
      by_cases e : f = k
      · exact h2 ⟨e1, e⟩
      · exact h1 ⟨e1, by omega, e3⟩
theorem zfF_4 (a : zGp) (B : Nat → Int32) (t : Nat) : zfF a B t (t + 4) = zup (zup (zup (zup a 0 t (B t)) 0 (t + 1) (B (t + 1))) 0 (t + 1 + 1) (B (t + 1 + 1))) 0 (t + 1 + 1 + 1) (B (t + 1 + 1 + 1)) := by
  rw [← zfF_st a B t (t + 4) (by omega) _ rfl, ← zfF_st _ B (t + 1) (t + 4) (by omega) _ rfl, ← zfF_st _ B (t + 1 + 1) (t + 4) (by omega) _ rfl, ← zfF_st _ B (t + 1 + 1 + 1) (t + 4) (by omega) _ rfl, show t + 1 + 1 + 1 + 1 = t + 4 from rfl, zfF_0]

theorem T124_24 (d L : Nat) (C : zCt) (p0 p2 r2 r3 s4 t : Nat) (x : Int32) (ht : t < 120) (hC : C 201 0 4 = nI t) : zR d 124 3 [.ref 1, .int x, .int 24] [] (zZ L, zI C, zPd p0 p2 r2 r3 s4) = zR d 124 3 [.ref 1, .int x, .int (16)] [] (zZ L, zI (zcs (zcs C 384 (zup (C 384) 0 t ((x >>> (24 : Int32)) &&& 255))) 201 (zup (C 201) 0 4 (nI (t + 1)))), zPd p0 p2 r2 r3 s4) := by
  have g0 : ¬ (120 : Int32) ≤ nI t := nI_ge (b := 120) (by omega) (by decide)
  rw [e124_3, if_neg (by decide)]
  simp +decide (disch := omega) only [e124_7, e124_16, zshB, zsh8, hC, g0, zpre, ite_self, zs1, zs2, zs3, zI_eqb, and_self, not_true_eq_false, if_true, if_false, ite_true, ite_false, not_false_eq_true, zBP, zBZ, zisO, zisA, zlen, decide_true, decide_false, Bool.and_self, Bool.and_true, Bool.true_and, cond_true, cond_false, zBG, zBR, zBU, zBV, zinb_n, zix_n, zlA, zlB, zlM, zlN, zlX, zlI, nI_add, Nat.add_eq_zero_iff, false_and, and_false, and_true, true_and, true_or, or_true, false_or, or_false, zbool_i, zb0, zb1, zshp_0, zcs_eq, zcs_n, zcs_cs, zup_g, zup_n, zp2_sun, zp2_rock, zp2_tug, zp2_contract, zp2_window, zp2_code, zp2_rbody, zp2_rstock, zp2_tfree, zp2_thold, zp2_tknown, zp2_ccells, zsh2_sun, zsh2_rock, zsh2_body, zsh2_stock, zsh2_tug, zsh2_free, zsh2_hold, zsh2_known, zsh2_contract, zsh2_window, zsh2_code, zsh2_cells, zg_nsun0, zg_nsun1, zg_nsun2, zg_nrock0, zg_nrock1, zg_nrock2, zg_nrock3, zg_nrock4, zg_nrock5, zg_nrock6, zg_nrock7, zg_nrock8, zg_nrock9, zg_nrock10, zg_nrock11, zg_nrock12, zg_nrock13, zg_nrock14, zg_ntug0, zg_ntug1, zg_ntug2, zg_ntug3, zg_ntug4, zg_ntug5, zg_ntug6, zg_ntug7, zg_ntug8, zg_ntug9, zg_ntug10, zg_ntug11, zg_ntug12, zg_ntug13, zg_ntug14, zg_ntug15, zg_ntug17, zg_ntug18, zg_ntug19, zg_ntug20, zg_ntug21, zg_ntug22, zg_ncon0, zg_ncon1, zg_ncon2, zg_ncon3, zg_ncon4, zg_ncon5, zg_ncon6, zg_nwin0, zg_nwin1, zg_nwin2, zg_nwin3, zg_nwin4, zg_nwin5, zg_ncode0, zg_ncode1, zg_ncode3, zg_nrule, zg_nstock, zg_nhold, zg_nknown, zg_nord, zg_nrep, zg_ncla, zg_ntou, zg_ncel, zu_nsun0, zu_nsun1, zu_nsun2, zu_nrock0, zu_nrock1, zu_nrock2, zu_nrock3, zu_nrock4, zu_nrock5, zu_nrock6, zu_nrock7, zu_nrock8, zu_nrock9, zu_nrock10, zu_nrock11, zu_nrock12, zu_nrock13, zu_nrock14, zu_ntug0, zu_ntug1, zu_ntug2, zu_ntug3, zu_ntug4, zu_ntug5, zu_ntug6, zu_ntug7, zu_ntug8, zu_ntug9, zu_ntug10, zu_ntug11, zu_ntug12, zu_ntug13, zu_ntug14, zu_ntug15, zu_ntug17, zu_ntug18, zu_ntug19, zu_ntug20, zu_ntug21, zu_ntug22, zu_ncon0, zu_ncon1, zu_ncon2, zu_ncon3, zu_ncon4, zu_ncon5, zu_ncon6, zu_nwin0, zu_nwin1, zu_nwin2, zu_nwin3, zu_nwin4, zu_nwin5, zu_ncode3, zu_nrule, zu_nstock, zu_nhold, zu_nknown, zu_nord, zu_nrep, zu_ncla, zu_ntou, zu_ncel]
theorem T124_16 (d L : Nat) (C : zCt) (p0 p2 r2 r3 s4 t : Nat) (x : Int32) (ht : t < 120) (hC : C 201 0 4 = nI t) : zR d 124 3 [.ref 1, .int x, .int 16] [] (zZ L, zI C, zPd p0 p2 r2 r3 s4) = zR d 124 3 [.ref 1, .int x, .int (8)] [] (zZ L, zI (zcs (zcs C 384 (zup (C 384) 0 t ((x >>> (16 : Int32)) &&& 255))) 201 (zup (C 201) 0 4 (nI (t + 1)))), zPd p0 p2 r2 r3 s4) := by
  have g0 : ¬ (120 : Int32) ≤ nI t := nI_ge (b := 120) (by omega) (by decide)
  rw [e124_3, if_neg (by decide)]
  simp +decide (disch := omega) only [e124_7, e124_16, zshB, zsh8, hC, g0, zpre, ite_self, zs1, zs2, zs3, zI_eqb, and_self, not_true_eq_false, if_true, if_false, ite_true, ite_false, not_false_eq_true, zBP, zBZ, zisO, zisA, zlen, decide_true, decide_false, Bool.and_self, Bool.and_true, Bool.true_and, cond_true, cond_false, zBG, zBR, zBU, zBV, zinb_n, zix_n, zlA, zlB, zlM, zlN, zlX, zlI, nI_add, Nat.add_eq_zero_iff, false_and, and_false, and_true, true_and, true_or, or_true, false_or, or_false, zbool_i, zb0, zb1, zshp_0, zcs_eq, zcs_n, zcs_cs, zup_g, zup_n, zp2_sun, zp2_rock, zp2_tug, zp2_contract, zp2_window, zp2_code, zp2_rbody, zp2_rstock, zp2_tfree, zp2_thold, zp2_tknown, zp2_ccells, zsh2_sun, zsh2_rock, zsh2_body, zsh2_stock, zsh2_tug, zsh2_free, zsh2_hold, zsh2_known, zsh2_contract, zsh2_window, zsh2_code, zsh2_cells, zg_nsun0, zg_nsun1, zg_nsun2, zg_nrock0, zg_nrock1, zg_nrock2, zg_nrock3, zg_nrock4, zg_nrock5, zg_nrock6, zg_nrock7, zg_nrock8, zg_nrock9, zg_nrock10, zg_nrock11, zg_nrock12, zg_nrock13, zg_nrock14, zg_ntug0, zg_ntug1, zg_ntug2, zg_ntug3, zg_ntug4, zg_ntug5, zg_ntug6, zg_ntug7, zg_ntug8, zg_ntug9, zg_ntug10, zg_ntug11, zg_ntug12, zg_ntug13, zg_ntug14, zg_ntug15, zg_ntug17, zg_ntug18, zg_ntug19, zg_ntug20, zg_ntug21, zg_ntug22, zg_ncon0, zg_ncon1, zg_ncon2, zg_ncon3, zg_ncon4, zg_ncon5, zg_ncon6, zg_nwin0, zg_nwin1, zg_nwin2, zg_nwin3, zg_nwin4, zg_nwin5, zg_ncode0, zg_ncode1, zg_ncode3, zg_nrule, zg_nstock, zg_nhold, zg_nknown, zg_nord, zg_nrep, zg_ncla, zg_ntou, zg_ncel, zu_nsun0, zu_nsun1, zu_nsun2, zu_nrock0, zu_nrock1, zu_nrock2, zu_nrock3, zu_nrock4, zu_nrock5, zu_nrock6, zu_nrock7, zu_nrock8, zu_nrock9, zu_nrock10, zu_nrock11, zu_nrock12, zu_nrock13, zu_nrock14, zu_ntug0, zu_ntug1, zu_ntug2, zu_ntug3, zu_ntug4, zu_ntug5, zu_ntug6, zu_ntug7, zu_ntug8, zu_ntug9, zu_ntug10, zu_ntug11, zu_ntug12, zu_ntug13, zu_ntug14, zu_ntug15, zu_ntug17, zu_ntug18, zu_ntug19, zu_ntug20, zu_ntug21, zu_ntug22, zu_ncon0, zu_ncon1, zu_ncon2, zu_ncon3, zu_ncon4, zu_ncon5, zu_ncon6, zu_nwin0, zu_nwin1, zu_nwin2, zu_nwin3, zu_nwin4, zu_nwin5, zu_ncode3, zu_nrule, zu_nstock, zu_nhold, zu_nknown, zu_nord, zu_nrep, zu_ncla, zu_ntou, zu_ncel]
theorem T124_8 (d L : Nat) (C : zCt) (p0 p2 r2 r3 s4 t : Nat) (x : Int32) (ht : t < 120) (hC : C 201 0 4 = nI t) : zR d 124 3 [.ref 1, .int x, .int 8] [] (zZ L, zI C, zPd p0 p2 r2 r3 s4) = zR d 124 3 [.ref 1, .int x, .int (0)] [] (zZ L, zI (zcs (zcs C 384 (zup (C 384) 0 t ((x >>> (8 : Int32)) &&& 255))) 201 (zup (C 201) 0 4 (nI (t + 1)))), zPd p0 p2 r2 r3 s4) := by
  have g0 : ¬ (120 : Int32) ≤ nI t := nI_ge (b := 120) (by omega) (by decide)
  rw [e124_3, if_neg (by decide)]
  simp +decide (disch := omega) only [e124_7, e124_16, zshB, zsh8, hC, g0, zpre, ite_self, zs1, zs2, zs3, zI_eqb, and_self, not_true_eq_false, if_true, if_false, ite_true, ite_false, not_false_eq_true, zBP, zBZ, zisO, zisA, zlen, decide_true, decide_false, Bool.and_self, Bool.and_true, Bool.true_and, cond_true, cond_false, zBG, zBR, zBU, zBV, zinb_n, zix_n, zlA, zlB, zlM, zlN, zlX, zlI, nI_add, Nat.add_eq_zero_iff, false_and, and_false, and_true, true_and, true_or, or_true, false_or, or_false, zbool_i, zb0, zb1, zshp_0, zcs_eq, zcs_n, zcs_cs, zup_g, zup_n, zp2_sun, zp2_rock, zp2_tug, zp2_contract, zp2_window, zp2_code, zp2_rbody, zp2_rstock, zp2_tfree, zp2_thold, zp2_tknown, zp2_ccells, zsh2_sun, zsh2_rock, zsh2_body, zsh2_stock, zsh2_tug, zsh2_free, zsh2_hold, zsh2_known, zsh2_contract, zsh2_window, zsh2_code, zsh2_cells, zg_nsun0, zg_nsun1, zg_nsun2, zg_nrock0, zg_nrock1, zg_nrock2, zg_nrock3, zg_nrock4, zg_nrock5, zg_nrock6, zg_nrock7, zg_nrock8, zg_nrock9, zg_nrock10, zg_nrock11, zg_nrock12, zg_nrock13, zg_nrock14, zg_ntug0, zg_ntug1, zg_ntug2, zg_ntug3, zg_ntug4, zg_ntug5, zg_ntug6, zg_ntug7, zg_ntug8, zg_ntug9, zg_ntug10, zg_ntug11, zg_ntug12, zg_ntug13, zg_ntug14, zg_ntug15, zg_ntug17, zg_ntug18, zg_ntug19, zg_ntug20, zg_ntug21, zg_ntug22, zg_ncon0, zg_ncon1, zg_ncon2, zg_ncon3, zg_ncon4, zg_ncon5, zg_ncon6, zg_nwin0, zg_nwin1, zg_nwin2, zg_nwin3, zg_nwin4, zg_nwin5, zg_ncode0, zg_ncode1, zg_ncode3, zg_nrule, zg_nstock, zg_nhold, zg_nknown, zg_nord, zg_nrep, zg_ncla, zg_ntou, zg_ncel, zu_nsun0, zu_nsun1, zu_nsun2, zu_nrock0, zu_nrock1, zu_nrock2, zu_nrock3, zu_nrock4, zu_nrock5, zu_nrock6, zu_nrock7, zu_nrock8, zu_nrock9, zu_nrock10, zu_nrock11, zu_nrock12, zu_nrock13, zu_nrock14, zu_ntug0, zu_ntug1, zu_ntug2, zu_ntug3, zu_ntug4, zu_ntug5, zu_ntug6, zu_ntug7, zu_ntug8, zu_ntug9, zu_ntug10, zu_ntug11, zu_ntug12, zu_ntug13, zu_ntug14, zu_ntug15, zu_ntug17, zu_ntug18, zu_ntug19, zu_ntug20, zu_ntug21, zu_ntug22, zu_ncon0, zu_ncon1, zu_ncon2, zu_ncon3, zu_ncon4, zu_ncon5, zu_ncon6, zu_nwin0, zu_nwin1, zu_nwin2, zu_nwin3, zu_nwin4, zu_nwin5, zu_ncode3, zu_nrule, zu_nstock, zu_nhold, zu_nknown, zu_nord, zu_nrep, zu_ncla, zu_ntou, zu_ncel]
theorem T124_0 (d L : Nat) (C : zCt) (p0 p2 r2 r3 s4 t : Nat) (x : Int32) (ht : t < 120) (hC : C 201 0 4 = nI t) : zR d 124 3 [.ref 1, .int x, .int 0] [] (zZ L, zI C, zPd p0 p2 r2 r3 s4) = zR d 124 3 [.ref 1, .int x, .int (-8)] [] (zZ L, zI (zcs (zcs C 384 (zup (C 384) 0 t ((x >>> (0 : Int32)) &&& 255))) 201 (zup (C 201) 0 4 (nI (t + 1)))), zPd p0 p2 r2 r3 s4) := by
  have g0 : ¬ (120 : Int32) ≤ nI t := nI_ge (b := 120) (by omega) (by decide)
  rw [e124_3, if_neg (by decide)]
  simp +decide (disch := omega) only [e124_7, e124_16, zshB, zsh8, hC, g0, zpre, ite_self, zs1, zs2, zs3, zI_eqb, and_self, not_true_eq_false, if_true, if_false, ite_true, ite_false, not_false_eq_true, zBP, zBZ, zisO, zisA, zlen, decide_true, decide_false, Bool.and_self, Bool.and_true, Bool.true_and, cond_true, cond_false, zBG, zBR, zBU, zBV, zinb_n, zix_n, zlA, zlB, zlM, zlN, zlX, zlI, nI_add, Nat.add_eq_zero_iff, false_and, and_false, and_true, true_and, true_or, or_true, false_or, or_false, zbool_i, zb0, zb1, zshp_0, zcs_eq, zcs_n, zcs_cs, zup_g, zup_n, zp2_sun, zp2_rock, zp2_tug, zp2_contract, zp2_window, zp2_code, zp2_rbody, zp2_rstock, zp2_tfree, zp2_thold, zp2_tknown, zp2_ccells, zsh2_sun, zsh2_rock, zsh2_body, zsh2_stock, zsh2_tug, zsh2_free, zsh2_hold, zsh2_known, zsh2_contract, zsh2_window, zsh2_code, zsh2_cells, zg_nsun0, zg_nsun1, zg_nsun2, zg_nrock0, zg_nrock1, zg_nrock2, zg_nrock3, zg_nrock4, zg_nrock5, zg_nrock6, zg_nrock7, zg_nrock8, zg_nrock9, zg_nrock10, zg_nrock11, zg_nrock12, zg_nrock13, zg_nrock14, zg_ntug0, zg_ntug1, zg_ntug2, zg_ntug3, zg_ntug4, zg_ntug5, zg_ntug6, zg_ntug7, zg_ntug8, zg_ntug9, zg_ntug10, zg_ntug11, zg_ntug12, zg_ntug13, zg_ntug14, zg_ntug15, zg_ntug17, zg_ntug18, zg_ntug19, zg_ntug20, zg_ntug21, zg_ntug22, zg_ncon0, zg_ncon1, zg_ncon2, zg_ncon3, zg_ncon4, zg_ncon5, zg_ncon6, zg_nwin0, zg_nwin1, zg_nwin2, zg_nwin3, zg_nwin4, zg_nwin5, zg_ncode0, zg_ncode1, zg_ncode3, zg_nrule, zg_nstock, zg_nhold, zg_nknown, zg_nord, zg_nrep, zg_ncla, zg_ntou, zg_ncel, zu_nsun0, zu_nsun1, zu_nsun2, zu_nrock0, zu_nrock1, zu_nrock2, zu_nrock3, zu_nrock4, zu_nrock5, zu_nrock6, zu_nrock7, zu_nrock8, zu_nrock9, zu_nrock10, zu_nrock11, zu_nrock12, zu_nrock13, zu_nrock14, zu_ntug0, zu_ntug1, zu_ntug2, zu_ntug3, zu_ntug4, zu_ntug5, zu_ntug6, zu_ntug7, zu_ntug8, zu_ntug9, zu_ntug10, zu_ntug11, zu_ntug12, zu_ntug13, zu_ntug14, zu_ntug15, zu_ntug17, zu_ntug18, zu_ntug19, zu_ntug20, zu_ntug21, zu_ntug22, zu_ncon0, zu_ncon1, zu_ncon2, zu_ncon3, zu_ncon4, zu_ncon5, zu_ncon6, zu_nwin0, zu_nwin1, zu_nwin2, zu_nwin3, zu_nwin4, zu_nwin5, zu_ncode3, zu_nrule, zu_nstock, zu_nhold, zu_nknown, zu_nord, zu_nrep, zu_ncla, zu_ntou, zu_ncel]
theorem T124 (d L : Nat) (C : zCt) (p0 p2 r2 r3 s4 t : Nat) (x : Int32) (v : Value) (ht : t + 4 ≤ 120) (hC : C 201 0 4 = nI t) : zR d 124 0 [.ref 1, .int x, v] [] (zZ L, zI C, zPd p0 p2 r2 r3 s4) = some (none, (zZ L, zI (zcs (zcs C 384 (zfF (C 384) (fun f => zby x (f - t)) t (t + 4))) 201 (zup (C 201) 0 4 (nI (t + 4)))), zPd p0 p2 r2 r3 s4)) := by
  have hup : ∀ (a : zGp) (u v : Int32), zup (zup a 0 4 u) 0 4 v = zup a 0 4 v := by
    intro a u v
    funext i f
    unfold zup
    by_cases e : i = 0 ∧ f = 4
    · rw [if_pos e, if_pos e]
    · rw [if_neg e, if_neg e, if_neg e]
  have hcs : ∀ (F G F' G' : zGp), zcs (zcs (zcs (zcs C 384 F) 201 G) 384 F') 201 G' = zcs (zcs C 384 F') 201 G' := by
    intro F G F' G'
    rw [zcs_comm (zcs C 384 F) G F' (by decide), zcs_cs, zcs_cs]
  rw [zfF_4, show t - t = 0 by omega, show t + 1 - t = 1 by omega, show t + 1 + 1 - t = 2 by omega, show t + 1 + 1 + 1 - t = 3 by omega, e124_0]
  rw [T124_24 d L C p0 p2 r2 r3 s4 t x (by omega) hC]
  rw [T124_16 d L _ p0 p2 r2 r3 s4 (t + 1) x (by omega) (by rw [zcs_eq, zup_g]), hcs]
  rw [zcs_eq, zcs_n _ _ (by decide : (384 : Nat) ≠ 201), zcs_eq, hup]
  rw [T124_8 d L _ p0 p2 r2 r3 s4 (t + 1 + 1) x (by omega) (by rw [zcs_eq, zup_g]), hcs]
  rw [zcs_eq, zcs_n _ _ (by decide : (384 : Nat) ≠ 201), zcs_eq, hup]
  rw [T124_0 d L _ p0 p2 r2 r3 s4 (t + 1 + 1 + 1) x (by omega) (by rw [zcs_eq, zup_g]), hcs]
  rw [zcs_eq, zcs_n _ _ (by decide : (384 : Nat) ≠ 201), zcs_eq, hup]
  rw [e124_3, if_pos (by decide), e124_48]
  rfl
def zbyt (a b c : Int32) (k : Nat) : Int32 := zby (if k < 4 then a else if k < 8 then b else c) k
theorem T176_18 (d L : Nat) (p0 p2 r2 r3 s4 t : Nat) (a b c : Int32) (ht : t + 12 ≤ 120) : ∀ (m k : Nat) (C : zCt) (v : Value), C 401 0 4 = nI t → k + m = 12 → zR d 176 18 [.ref 201, .int a, .int b, .int c, .int (nI k), v] [] (zZ L, zI C, zPd p0 p2 r2 r3 s4) = some (some (.int (nI (t + 12))), (zZ L, zI (zcs (zcs C 404 (zfF (C 404) (fun f => zbyt a b c (f - t)) (t + k) (t + 12))) 401 (zup (C 401) 0 4 (nI (t + 12)))), zPd p0 p2 r2 r3 s4)) := by
  intro m
  induction m with
  | zero =>
    intro k C v hC hk
    have hk : k = 12 := by omega
    subst hk
    rw [e176_18v, if_pos (by decide), zfF_0, zcs_self]
    simp +decide (disch := omega) only [e176_84, hC, zpre, ite_self, Nat.reduceAdd, zs1, zs2, zs3, zI_eqb, and_self, not_true_eq_false, if_true, if_false, ite_true, ite_false, not_false_eq_true, zBP, zBZ, zisO, zisA, zlen, decide_true, decide_false, Bool.and_self, Bool.and_true, Bool.true_and, cond_true, cond_false, zBG, zBR, zBU, zBV, zinb_n, zix_n, zlA, zlB, zlM, zlN, zlX, zlI, nI_add, Nat.add_eq_zero_iff, false_and, and_false, and_true, true_and, true_or, or_true, false_or, or_false, zbool_i, zb0, zb1, zshp_0, zcs_eq, zcs_n, zcs_cs, zup_g, zup_n, zg_srock2, zg_stug2, zg_ssun, zg_ssun0, zg_srock, zg_srock0, zg_stug, zg_stug0, zg_sord, zg_sord0, zg_srep, zg_srep0, zg_scla, zg_scla0, zg_scon, zg_scon0, zg_swin, zg_swin0, zg_sleg, zg_sleg0, zg_spro, zg_sstp, zg_swrd, zu_srock2, zu_stug2, zu_ssun, zu_ssun0, zu_srock, zu_srock0, zu_stug, zu_stug0, zu_sord, zu_sord0, zu_srep, zu_srep0, zu_scla, zu_scla0, zu_scon, zu_scon0, zu_swin, zu_swin0, zu_sleg, zu_sleg0, zu_spro, zu_sstp, zu_swrd]
  | succ m ih =>
    intro k C v hC hk
    have hge : ¬ (12 : Int32) ≤ nI k := nI_ge (a := k) (b := 12) (by omega) (by decide)
    have hsh := zshm k (by omega)
    have hkk : t + k - t = k := by omega
    rw [e176_18v, if_neg hge]
    by_cases h4 : k < 4
    · have g4 : ¬ (4 : Int32) ≤ nI k := nI_ge (b := 4) h4 (by decide)
      simp +decide (disch := omega) only [e176_25, e176_31, e176_35, e176_42, e176_46, e176_47, hC, g4, hsh, zpre, ite_self, Nat.reduceAdd, zs1, zs2, zs3, zI_eqb, and_self, not_true_eq_false, if_true, if_false, ite_true, ite_false, not_false_eq_true, zBP, zBZ, zisO, zisA, zlen, decide_true, decide_false, Bool.and_self, Bool.and_true, Bool.true_and, cond_true, cond_false, zBG, zBR, zBU, zBV, zinb_n, zix_n, zlA, zlB, zlM, zlN, zlX, zlI, nI_add, Nat.add_eq_zero_iff, false_and, and_false, and_true, true_and, true_or, or_true, false_or, or_false, zbool_i, zb0, zb1, zshp_0, zcs_eq, zcs_n, zcs_cs, zup_g, zup_n, zg_srock2, zg_stug2, zg_ssun, zg_ssun0, zg_srock, zg_srock0, zg_stug, zg_stug0, zg_sord, zg_sord0, zg_srep, zg_srep0, zg_scla, zg_scla0, zg_scon, zg_scon0, zg_swin, zg_swin0, zg_sleg, zg_sleg0, zg_spro, zg_sstp, zg_swrd, zu_srock2, zu_stug2, zu_ssun, zu_ssun0, zu_srock, zu_srock0, zu_stug, zu_stug0, zu_sord, zu_sord0, zu_srep, zu_srep0, zu_scla, zu_scla0, zu_scon, zu_scon0, zu_swin, zu_swin0, zu_sleg, zu_sleg0, zu_spro, zu_sstp, zu_swrd]
      rw [ih _ _ _ (by simp (disch := omega) only [zcs_n]; exact hC) (by omega)]
      simp (disch := omega) only [zcs_eq, zcs_cs, zcs_n]
      rw [show t + (k + 1) = t + k + 1 from rfl, zfF_st _ _ _ _ (by omega) _ (by rw [hkk]; unfold zbyt zby; rw [if_pos h4])]
    · have g4 : (4 : Int32) ≤ nI k := nI_le (a := 4) (by omega) (by omega)
      by_cases h8 : k < 8
      · have g8 : ¬ (8 : Int32) ≤ nI k := nI_ge (b := 8) h8 (by decide)
        simp +decide (disch := omega) only [e176_25, e176_31, e176_35, e176_42, e176_46, e176_47, hC, g4, g8, hsh, zpre, ite_self, Nat.reduceAdd, zs1, zs2, zs3, zI_eqb, and_self, not_true_eq_false, if_true, if_false, ite_true, ite_false, not_false_eq_true, zBP, zBZ, zisO, zisA, zlen, decide_true, decide_false, Bool.and_self, Bool.and_true, Bool.true_and, cond_true, cond_false, zBG, zBR, zBU, zBV, zinb_n, zix_n, zlA, zlB, zlM, zlN, zlX, zlI, nI_add, Nat.add_eq_zero_iff, false_and, and_false, and_true, true_and, true_or, or_true, false_or, or_false, zbool_i, zb0, zb1, zshp_0, zcs_eq, zcs_n, zcs_cs, zup_g, zup_n, zg_srock2, zg_stug2, zg_ssun, zg_ssun0, zg_srock, zg_srock0, zg_stug, zg_stug0, zg_sord, zg_sord0, zg_srep, zg_srep0, zg_scla, zg_scla0, zg_scon, zg_scon0, zg_swin, zg_swin0, zg_sleg, zg_sleg0, zg_spro, zg_sstp, zg_swrd, zu_srock2, zu_stug2, zu_ssun, zu_ssun0, zu_srock, zu_srock0, zu_stug, zu_stug0, zu_sord, zu_sord0, zu_srep, zu_srep0, zu_scla, zu_scla0, zu_scon, zu_scon0, zu_swin, zu_swin0, zu_sleg, zu_sleg0, zu_spro, zu_sstp, zu_swrd]
        rw [ih _ _ _ (by simp (disch := omega) only [zcs_n]; exact hC) (by omega)]
        simp (disch := omega) only [zcs_eq, zcs_cs, zcs_n]
        rw [show t + (k + 1) = t + k + 1 from rfl, zfF_st _ _ _ _ (by omega) _ (by rw [hkk]; unfold zbyt zby; rw [if_neg h4, if_pos h8])]
      · have g8 : (8 : Int32) ≤ nI k := nI_le (a := 8) (by omega) (by omega)
        simp +decide (disch := omega) only [e176_25, e176_31, e176_35, e176_42, e176_46, e176_47, hC, g4, g8, hsh, zpre, ite_self, Nat.reduceAdd, zs1, zs2, zs3, zI_eqb, and_self, not_true_eq_false, if_true, if_false, ite_true, ite_false, not_false_eq_true, zBP, zBZ, zisO, zisA, zlen, decide_true, decide_false, Bool.and_self, Bool.and_true, Bool.true_and, cond_true, cond_false, zBG, zBR, zBU, zBV, zinb_n, zix_n, zlA, zlB, zlM, zlN, zlX, zlI, nI_add, Nat.add_eq_zero_iff, false_and, and_false, and_true, true_and, true_or, or_true, false_or, or_false, zbool_i, zb0, zb1, zshp_0, zcs_eq, zcs_n, zcs_cs, zup_g, zup_n, zg_srock2, zg_stug2, zg_ssun, zg_ssun0, zg_srock, zg_srock0, zg_stug, zg_stug0, zg_sord, zg_sord0, zg_srep, zg_srep0, zg_scla, zg_scla0, zg_scon, zg_scon0, zg_swin, zg_swin0, zg_sleg, zg_sleg0, zg_spro, zg_sstp, zg_swrd, zu_srock2, zu_stug2, zu_ssun, zu_ssun0, zu_srock, zu_srock0, zu_stug, zu_stug0, zu_sord, zu_sord0, zu_srep, zu_srep0, zu_scla, zu_scla0, zu_scon, zu_scon0, zu_swin, zu_swin0, zu_sleg, zu_sleg0, zu_spro, zu_sstp, zu_swrd]
        rw [ih _ _ _ (by simp (disch := omega) only [zcs_n]; exact hC) (by omega)]
        simp (disch := omega) only [zcs_eq, zcs_cs, zcs_n]
        rw [show t + (k + 1) = t + k + 1 from rfl, zfF_st _ _ _ _ (by omega) _ (by rw [hkk]; unfold zbyt zby; rw [if_neg h4, if_neg h8])]
theorem pr_feed (d L : Nat) (C : zCt) (hR : zRep C) (a b c : Int32) : zPair d 123 176 [.ref 1, .int a, .int b, .int c] [.ref 201, .int a, .int b, .int c, zmk, zmk] L C := by
  obtain ⟨⟨w, hG, hS, hRR, hT, hO, hE, hC, hK, hW, hL, hP⟩, hX⟩ := id hR
  have hGe := zRG_e hG
  rintro ⟨p0, p2, r2, r3, s4⟩
  obtain ⟨hIm, hKe, hK01, hTp, hWt, hH0, hH1⟩ := id hX
  obtain ⟨⟨t, ht120, hte⟩, htt, hta⟩ := id hTp
  by_cases h1 : t ≤ 108
  · have g1 : nI t ≤ 108 := nI_le (b := 108) h1 (by decide)
    have g1b : ¬ (108 : Int32) < nI t := Int32.not_lt.mpr g1
    have g2 : nI (t + 12) ≤ 120 := nI_le (b := 120) (by omega) (by decide)
    have hb := fun C v h => T176_18 (d + 100) L p0 p2 r2 r3 s4 t a b c (by omega) 12 0 C v h rfl
    simp only [zn0] at hb
    have ha1 := fun C v h => T124 (d + 99) L C p0 p2 r2 r3 s4 t a v (by omega) h
    have ha2 := fun C v h => T124 (d + 99) L C p0 p2 r2 r3 s4 (t + 4) b v (by omega) h
    have ha3 := fun C v h => T124 (d + 99) L C p0 p2 r2 r3 s4 (t + 8) c v (by omega) h
    obtain ⟨C1, hC1⟩ : ∃ C1, C1 = (zcs (zcs C 384 (zfF (C 384) (fun f => zby a (f - t)) t (t + 4))) 201 (zup (C 201) 0 4 (nI (t + 4)))) := ⟨_, rfl⟩
    have k1 : ∀ v, zR (d + 99) 124 0 [.ref 1, .int a, v] [] (zZ L, zI C, zPd p0 p2 r2 r3 s4) = some (none, (zZ L, zI C1, zPd p0 p2 r2 r3 s4)) := by rw [hC1]; exact fun v => ha1 C v (htt.trans hte)
    have q1 : C1 201 0 4 = nI (t + 4) := by rw [hC1, zcs_eq, zup_g]
    obtain ⟨C2, hC2⟩ : ∃ C2, C2 = (zcs (zcs C1 384 (zfF (C1 384) (fun f => zby b (f - (t + 4))) (t + 4) (t + 8))) 201 (zup (C1 201) 0 4 (nI (t + 8)))) := ⟨_, rfl⟩
    have k2 : ∀ v, zR (d + 99) 124 0 [.ref 1, .int b, v] [] (zZ L, zI C1, zPd p0 p2 r2 r3 s4) = some (none, (zZ L, zI C2, zPd p0 p2 r2 r3 s4)) := by rw [hC2]; exact fun v => ha2 C1 v q1
    have q2 : C2 201 0 4 = nI (t + 8) := by rw [hC2, zcs_eq, zup_g]
    obtain ⟨C3, hC3⟩ : ∃ C3, C3 = (zcs (zcs C2 384 (zfF (C2 384) (fun f => zby c (f - (t + 8))) (t + 8) (t + 12))) 201 (zup (C2 201) 0 4 (nI (t + 12)))) := ⟨_, rfl⟩
    have k3 : ∀ v, zR (d + 99) 124 0 [.ref 1, .int c, v] [] (zZ L, zI C2, zPd p0 p2 r2 r3 s4) = some (none, (zZ L, zI C3, zPd p0 p2 r2 r3 s4)) := by rw [hC3]; exact fun v => ha3 C2 v q2
    have q3 : C3 201 0 4 = nI (t + 12) := by rw [hC3, zcs_eq, zup_g]
    have q4 : ∀ g, g ≠ 201 → g ≠ 384 → C3 g = C g := fun g e1 e2 => by rw [hC3, zcs_n _ _ e1, zcs_n _ _ e2, hC2, zcs_n _ _ e1, zcs_n _ _ e2, hC1, zcs_n _ _ e1, zcs_n _ _ e2]
    have q5 : C3 201 0 2 = C 201 0 2 ∧ C3 201 0 6 = C 201 0 6 := by
      rw [hC3, zcs_eq, hC2, zcs_eq, hC1, zcs_eq]
      simp (disch := omega) only [zup_n, and_self]
    have q6 : ∀ f, C3 384 0 f = if t ≤ f ∧ f < t + 12 then zbyt a b c (f - t) else C 384 0 f := by
      intro f
      rw [hC3, zcs_n _ _ (by decide), zcs_eq]
      by_cases e3 : t + 8 ≤ f ∧ f < t + 12
      · rw [zfF_in e3, if_pos (by omega)]
        unfold zbyt zby
        rw [if_neg (by omega), if_neg (by omega)]
        unfold zsh
        rw [show (f - (t + 8)) % 4 = (f - t) % 4 by omega]
      · rw [zfF_out e3, hC2, zcs_n _ _ (by decide), zcs_eq]
        by_cases e2 : t + 4 ≤ f ∧ f < t + 8
        · rw [zfF_in e2, if_pos (by omega)]
          unfold zbyt zby
          rw [if_neg (by omega), if_pos (by omega)]
          unfold zsh
          rw [show (f - (t + 4)) % 4 = (f - t) % 4 by omega]
        · rw [zfF_out e2, hC1, zcs_n _ _ (by decide), zcs_eq]
          by_cases e1 : t ≤ f ∧ f < t + 4
          · rw [zfF_in e1, if_pos (by omega)]
            unfold zbyt
            rw [if_pos (by omega)]
          · rw [zfF_out e1, if_neg (by omega)]
    refine ⟨nI (t + 12), C3, (p0, p2, r2, r3, s4), ?_, ?_⟩
    · simp +decide (disch := omega) only [e123_0, e123_9, e123_12, e123_17, e123_22, e123_27, htt, hte, g1, g1b, k1, k2, k3, q3, zpre, ite_self, zs1, zs2, zs3, zI_eqb, and_self, not_true_eq_false, if_true, if_false, ite_true, ite_false, not_false_eq_true, zBP, zBZ, zisO, zisA, zlen, decide_true, decide_false, Bool.and_self, Bool.and_true, Bool.true_and, cond_true, cond_false, zBG, zBR, zBU, zBV, zinb_n, zix_n, zlA, zlB, zlM, zlN, zlX, zlI, nI_add, Nat.add_eq_zero_iff, false_and, and_false, and_true, true_and, true_or, or_true, false_or, or_false, zbool_i, zb0, zb1, zshp_0, zcs_eq, zcs_n, zcs_cs, zup_g, zup_n, zp2_sun, zp2_rock, zp2_tug, zp2_contract, zp2_window, zp2_code, zp2_rbody, zp2_rstock, zp2_tfree, zp2_thold, zp2_tknown, zp2_ccells, zsh2_sun, zsh2_rock, zsh2_body, zsh2_stock, zsh2_tug, zsh2_free, zsh2_hold, zsh2_known, zsh2_contract, zsh2_window, zsh2_code, zsh2_cells, zg_nsun0, zg_nsun1, zg_nsun2, zg_nrock0, zg_nrock1, zg_nrock2, zg_nrock3, zg_nrock4, zg_nrock5, zg_nrock6, zg_nrock7, zg_nrock8, zg_nrock9, zg_nrock10, zg_nrock11, zg_nrock12, zg_nrock13, zg_nrock14, zg_ntug0, zg_ntug1, zg_ntug2, zg_ntug3, zg_ntug4, zg_ntug5, zg_ntug6, zg_ntug7, zg_ntug8, zg_ntug9, zg_ntug10, zg_ntug11, zg_ntug12, zg_ntug13, zg_ntug14, zg_ntug15, zg_ntug17, zg_ntug18, zg_ntug19, zg_ntug20, zg_ntug21, zg_ntug22, zg_ncon0, zg_ncon1, zg_ncon2, zg_ncon3, zg_ncon4, zg_ncon5, zg_ncon6, zg_nwin0, zg_nwin1, zg_nwin2, zg_nwin3, zg_nwin4, zg_nwin5, zg_ncode0, zg_ncode1, zg_ncode3, zg_nrule, zg_nstock, zg_nhold, zg_nknown, zg_nord, zg_nrep, zg_ncla, zg_ntou, zg_ncel, zu_nsun0, zu_nsun1, zu_nsun2, zu_nrock0, zu_nrock1, zu_nrock2, zu_nrock3, zu_nrock4, zu_nrock5, zu_nrock6, zu_nrock7, zu_nrock8, zu_nrock9, zu_nrock10, zu_nrock11, zu_nrock12, zu_nrock13, zu_nrock14, zu_ntug0, zu_ntug1, zu_ntug2, zu_ntug3, zu_ntug4, zu_ntug5, zu_ntug6, zu_ntug7, zu_ntug8, zu_ntug9, zu_ntug10, zu_ntug11, zu_ntug12, zu_ntug13, zu_ntug14, zu_ntug15, zu_ntug17, zu_ntug18, zu_ntug19, zu_ntug20, zu_ntug21, zu_ntug22, zu_ncon0, zu_ncon1, zu_ncon2, zu_ncon3, zu_ncon4, zu_ncon5, zu_ncon6, zu_nwin0, zu_nwin1, zu_nwin2, zu_nwin3, zu_nwin4, zu_nwin5, zu_ncode3, zu_nrule, zu_nstock, zu_nhold, zu_nknown, zu_nord, zu_nrep, zu_ncla, zu_ntou, zu_ncel]
    have m1 : C3 401 = C 401 := q4 401 (by decide) (by decide)
    have m2 : C3 404 = C 404 := q4 404 (by decide) (by decide)
    refine ⟨zcs (zcs C3 404 (zfF (C3 404) (fun f => zbyt a b c (f - t)) (t + 0) (t + 12))) 401 (zup (C3 401) 0 4 (nI (t + 12))), ?_, ?_, ?_⟩
    · have hb' := fun v => hb C3 v (by rw [m1]; exact hte)
      simp +decide (disch := omega) only [e176_0, e176_15, m1, hte, g2, hb', zpre, ite_self, Nat.reduceAdd, zs1, zs2, zs3, zI_eqb, and_self, not_true_eq_false, if_true, if_false, ite_true, ite_false, not_false_eq_true, zBP, zBZ, zisO, zisA, zlen, decide_true, decide_false, Bool.and_self, Bool.and_true, Bool.true_and, cond_true, cond_false, zBG, zBR, zBU, zBV, zinb_n, zix_n, zlA, zlB, zlM, zlN, zlX, zlI, nI_add, Nat.add_eq_zero_iff, false_and, and_false, and_true, true_and, true_or, or_true, false_or, or_false, zbool_i, zb0, zb1, zshp_0, zcs_eq, zcs_n, zcs_cs, zup_g, zup_n, zg_srock2, zg_stug2, zg_ssun, zg_ssun0, zg_srock, zg_srock0, zg_stug, zg_stug0, zg_sord, zg_sord0, zg_srep, zg_srep0, zg_scla, zg_scla0, zg_scon, zg_scon0, zg_swin, zg_swin0, zg_sleg, zg_sleg0, zg_spro, zg_sstp, zg_swrd, zu_srock2, zu_stug2, zu_ssun, zu_ssun0, zu_srock, zu_srock0, zu_stug, zu_stug0, zu_sord, zu_sord0, zu_srep, zu_srep0, zu_scla, zu_scla0, zu_scon, zu_scon0, zu_swin, zu_swin0, zu_sleg, zu_sleg0, zu_spro, zu_sstp, zu_swrd]
      done
    · unfold zRep zWR
      simp (disch := omega) only [zcs_eq, zcs_n, zup_g, zup_n, q4, m1, m2]
      rw [q5.1, q5.2, q3]
      refine ⟨⟨w, hG, hS, hRR, hT, hO, hE, hC, hK, hW, hL, hP⟩, hIm, hKe, hK01, ⟨⟨t + 12, by omega, rfl⟩, rfl, ?_⟩, hWt, hH0, hH1⟩
      intro f hf
      rw [zix_n (by omega)] at hf
      rw [q6]
      by_cases e : t ≤ f ∧ f < t + 12
      · rw [if_pos e, zfF_in (by omega)]
        exact ⟨rfl, zbyr _⟩
      · rw [if_neg e, zfF_out (by omega)]
        exact hta f (by rw [hte, zix_n (by omega)]; omega)
    · simp (disch := omega) only [zcs_n, q4]
  · have g1 : ¬ nI t ≤ 108 := nI_ge (a := 108) (by omega) (by omega)
    have g1b : (108 : Int32) < nI t := Int32.not_le.mp g1
    have g2 : ¬ nI (t + 12) ≤ 120 := nI_ge (a := 120) (by omega) (by omega)
    simp +decide (disch := omega) only [e123_0, e123_9, e123_12, e123_17, e123_22, e123_27, hGe, g1, g1b, g2, htt, hte, zpre, ite_self, zs1, zs2, zs3, zI_eqb, and_self, not_true_eq_false, if_true, if_false, ite_true, ite_false, not_false_eq_true, zBP, zBZ, zisO, zisA, zlen, decide_true, decide_false, Bool.and_self, Bool.and_true, Bool.true_and, cond_true, cond_false, zBG, zBR, zBU, zBV, zinb_n, zix_n, zlA, zlB, zlM, zlN, zlX, zlI, nI_add, Nat.add_eq_zero_iff, false_and, and_false, and_true, true_and, true_or, or_true, false_or, or_false, zbool_i, zb0, zb1, zshp_0, zcs_eq, zcs_n, zcs_cs, zup_g, zup_n, zp2_sun, zp2_rock, zp2_tug, zp2_contract, zp2_window, zp2_code, zp2_rbody, zp2_rstock, zp2_tfree, zp2_thold, zp2_tknown, zp2_ccells, zsh2_sun, zsh2_rock, zsh2_body, zsh2_stock, zsh2_tug, zsh2_free, zsh2_hold, zsh2_known, zsh2_contract, zsh2_window, zsh2_code, zsh2_cells, zg_nsun0, zg_nsun1, zg_nsun2, zg_nrock0, zg_nrock1, zg_nrock2, zg_nrock3, zg_nrock4, zg_nrock5, zg_nrock6, zg_nrock7, zg_nrock8, zg_nrock9, zg_nrock10, zg_nrock11, zg_nrock12, zg_nrock13, zg_nrock14, zg_ntug0, zg_ntug1, zg_ntug2, zg_ntug3, zg_ntug4, zg_ntug5, zg_ntug6, zg_ntug7, zg_ntug8, zg_ntug9, zg_ntug10, zg_ntug11, zg_ntug12, zg_ntug13, zg_ntug14, zg_ntug15, zg_ntug17, zg_ntug18, zg_ntug19, zg_ntug20, zg_ntug21, zg_ntug22, zg_ncon0, zg_ncon1, zg_ncon2, zg_ncon3, zg_ncon4, zg_ncon5, zg_ncon6, zg_nwin0, zg_nwin1, zg_nwin2, zg_nwin3, zg_nwin4, zg_nwin5, zg_ncode0, zg_ncode1, zg_ncode3, zg_nrule, zg_nstock, zg_nhold, zg_nknown, zg_nord, zg_nrep, zg_ncla, zg_ntou, zg_ncel, zu_nsun0, zu_nsun1, zu_nsun2, zu_nrock0, zu_nrock1, zu_nrock2, zu_nrock3, zu_nrock4, zu_nrock5, zu_nrock6, zu_nrock7, zu_nrock8, zu_nrock9, zu_nrock10, zu_nrock11, zu_nrock12, zu_nrock13, zu_nrock14, zu_ntug0, zu_ntug1, zu_ntug2, zu_ntug3, zu_ntug4, zu_ntug5, zu_ntug6, zu_ntug7, zu_ntug8, zu_ntug9, zu_ntug10, zu_ntug11, zu_ntug12, zu_ntug13, zu_ntug14, zu_ntug15, zu_ntug17, zu_ntug18, zu_ntug19, zu_ntug20, zu_ntug21, zu_ntug22, zu_ncon0, zu_ncon1, zu_ncon2, zu_ncon3, zu_ncon4, zu_ncon5, zu_ncon6, zu_nwin0, zu_nwin1, zu_nwin2, zu_nwin3, zu_nwin4, zu_nwin5, zu_ncode3, zu_nrule, zu_nstock, zu_nhold, zu_nknown, zu_nord, zu_nrep, zu_ncla, zu_ntou, zu_ncel]
    refine ⟨_, _, (p0, p2, r2, r3, s4), rfl, ?_⟩
    simp +decide (disch := omega) only [e176_0, e176_12, e176_15, g1, g1b, g2, hte, zpre, ite_self, Nat.reduceAdd, zs1, zs2, zs3, zI_eqb, and_self, not_true_eq_false, if_true, if_false, ite_true, ite_false, not_false_eq_true, zBP, zBZ, zisO, zisA, zlen, decide_true, decide_false, Bool.and_self, Bool.and_true, Bool.true_and, cond_true, cond_false, zBG, zBR, zBU, zBV, zinb_n, zix_n, zlA, zlB, zlM, zlN, zlX, zlI, nI_add, Nat.add_eq_zero_iff, false_and, and_false, and_true, true_and, true_or, or_true, false_or, or_false, zbool_i, zb0, zb1, zshp_0, zcs_eq, zcs_n, zcs_cs, zup_g, zup_n, zg_srock2, zg_stug2, zg_ssun, zg_ssun0, zg_srock, zg_srock0, zg_stug, zg_stug0, zg_sord, zg_sord0, zg_srep, zg_srep0, zg_scla, zg_scla0, zg_scon, zg_scon0, zg_swin, zg_swin0, zg_sleg, zg_sleg0, zg_spro, zg_sstp, zg_swrd, zu_srock2, zu_stug2, zu_ssun, zu_ssun0, zu_srock, zu_srock0, zu_stug, zu_stug0, zu_sord, zu_sord0, zu_srep, zu_srep0, zu_scla, zu_scla0, zu_scon, zu_scon0, zu_swin, zu_swin0, zu_sleg, zu_sleg0, zu_spro, zu_sstp, zu_swrd]
    exact ⟨_, zval (rfl), hR, rfl⟩
