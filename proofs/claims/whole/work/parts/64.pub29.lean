/-! ORDERS, REPORTS AND CLAIMS COME (3), printed by wip/gen/pub29.py -/
theorem T206_kn0 (d L p0 p2 r2 r3 s4 : Nat) (C : zCt) {k t : Nat} (x1 x2 : Int32) (hk : k < 60) (ht : t < 4) : zR d 206 97 [.ref 201, .int x1, .int x2, .int (nI (362 + 8 * k)), .int (nI (160 + 28 * t)), .int 0] [] (zZ L, zI C, zPd p0 p2 r2 r3 s4) = zR d 206 97 [.ref 201, .int x1, .int x2, .int (nI (362 + 8 * k)), .int (nI (160 + 28 * t)), .int 1] [] (zZ L, zI (zcs C 43 (zup (C 43) t 17 (C 45 k 1))), zPd p0 p2 r2 r3 s4) := by
  have e1 : zI C 202 (362 + 8 * k + 1 + 0) = C 45 k 1 := by rw [Nat.add_assoc]; exact zg_srep C hk (by decide)
  rw [e206_97, if_neg (by decide)]
  simp +decide (disch := omega) only [e206_104, zli, e1, zpre, ite_self, Nat.reduceAdd, zs1, zs2, zs3, zI_eqb, and_self, not_true_eq_false, if_true, if_false, ite_true, ite_false, not_false_eq_true, zBP, zBZ, zisO, zisA, zlen, decide_true, decide_false, Bool.and_self, Bool.and_true, Bool.true_and, cond_true, cond_false, zBG, zBR, zBU, zBV, zinb_n, zix_n, zlA, zlB, zlM, zlN, zlX, zlI, nI_add, Nat.add_eq_zero_iff, false_and, and_false, and_true, true_and, true_or, or_true, false_or, or_false, zbool_i, zb0, zb1, zshp_0, zcs_eq, zcs_n, zcs_cs, zup_g, zup_n, zg_srock2, zg_stug2, zg_ssun, zg_ssun0, zg_srock, zg_srock0, zg_stug, zg_stug0, zg_sord, zg_sord0, zg_srep, zg_srep0, zg_scla, zg_scla0, zg_scon, zg_scon0, zg_swin, zg_swin0, zg_sleg, zg_sleg0, zg_spro, zg_sstp, zg_swrd, zu_srock2, zu_stug2, zu_ssun, zu_ssun0, zu_srock, zu_srock0, zu_stug, zu_stug0, zu_sord, zu_sord0, zu_srep, zu_srep0, zu_scla, zu_scla0, zu_scon, zu_scon0, zu_swin, zu_swin0, zu_sleg, zu_sleg0, zu_spro, zu_sstp, zu_swrd]
theorem T206_kn1 (d L p0 p2 r2 r3 s4 : Nat) (C : zCt) {k t : Nat} (x1 x2 : Int32) (hk : k < 60) (ht : t < 4) : zR d 206 97 [.ref 201, .int x1, .int x2, .int (nI (362 + 8 * k)), .int (nI (160 + 28 * t)), .int 1] [] (zZ L, zI C, zPd p0 p2 r2 r3 s4) = zR d 206 97 [.ref 201, .int x1, .int x2, .int (nI (362 + 8 * k)), .int (nI (160 + 28 * t)), .int 2] [] (zZ L, zI (zcs C 43 (zup (C 43) t 18 (C 45 k 2))), zPd p0 p2 r2 r3 s4) := by
  have e1 : zI C 202 (362 + 8 * k + 1 + 1) = C 45 k 2 := by rw [Nat.add_assoc]; exact zg_srep C hk (by decide)
  rw [e206_97, if_neg (by decide)]
  simp +decide (disch := omega) only [e206_104, zli, e1, zpre, ite_self, Nat.reduceAdd, zs1, zs2, zs3, zI_eqb, and_self, not_true_eq_false, if_true, if_false, ite_true, ite_false, not_false_eq_true, zBP, zBZ, zisO, zisA, zlen, decide_true, decide_false, Bool.and_self, Bool.and_true, Bool.true_and, cond_true, cond_false, zBG, zBR, zBU, zBV, zinb_n, zix_n, zlA, zlB, zlM, zlN, zlX, zlI, nI_add, Nat.add_eq_zero_iff, false_and, and_false, and_true, true_and, true_or, or_true, false_or, or_false, zbool_i, zb0, zb1, zshp_0, zcs_eq, zcs_n, zcs_cs, zup_g, zup_n, zg_srock2, zg_stug2, zg_ssun, zg_ssun0, zg_srock, zg_srock0, zg_stug, zg_stug0, zg_sord, zg_sord0, zg_srep, zg_srep0, zg_scla, zg_scla0, zg_scon, zg_scon0, zg_swin, zg_swin0, zg_sleg, zg_sleg0, zg_spro, zg_sstp, zg_swrd, zu_srock2, zu_stug2, zu_ssun, zu_ssun0, zu_srock, zu_srock0, zu_stug, zu_stug0, zu_sord, zu_sord0, zu_srep, zu_srep0, zu_scla, zu_scla0, zu_scon, zu_scon0, zu_swin, zu_swin0, zu_sleg, zu_sleg0, zu_spro, zu_sstp, zu_swrd]
theorem T206_kn2 (d L p0 p2 r2 r3 s4 : Nat) (C : zCt) {k t : Nat} (x1 x2 : Int32) (hk : k < 60) (ht : t < 4) : zR d 206 97 [.ref 201, .int x1, .int x2, .int (nI (362 + 8 * k)), .int (nI (160 + 28 * t)), .int 2] [] (zZ L, zI C, zPd p0 p2 r2 r3 s4) = zR d 206 97 [.ref 201, .int x1, .int x2, .int (nI (362 + 8 * k)), .int (nI (160 + 28 * t)), .int 3] [] (zZ L, zI (zcs C 43 (zup (C 43) t 19 (C 45 k 3))), zPd p0 p2 r2 r3 s4) := by
  have e1 : zI C 202 (362 + 8 * k + 1 + 2) = C 45 k 3 := by rw [Nat.add_assoc]; exact zg_srep C hk (by decide)
  rw [e206_97, if_neg (by decide)]
  simp +decide (disch := omega) only [e206_104, zli, e1, zpre, ite_self, Nat.reduceAdd, zs1, zs2, zs3, zI_eqb, and_self, not_true_eq_false, if_true, if_false, ite_true, ite_false, not_false_eq_true, zBP, zBZ, zisO, zisA, zlen, decide_true, decide_false, Bool.and_self, Bool.and_true, Bool.true_and, cond_true, cond_false, zBG, zBR, zBU, zBV, zinb_n, zix_n, zlA, zlB, zlM, zlN, zlX, zlI, nI_add, Nat.add_eq_zero_iff, false_and, and_false, and_true, true_and, true_or, or_true, false_or, or_false, zbool_i, zb0, zb1, zshp_0, zcs_eq, zcs_n, zcs_cs, zup_g, zup_n, zg_srock2, zg_stug2, zg_ssun, zg_ssun0, zg_srock, zg_srock0, zg_stug, zg_stug0, zg_sord, zg_sord0, zg_srep, zg_srep0, zg_scla, zg_scla0, zg_scon, zg_scon0, zg_swin, zg_swin0, zg_sleg, zg_sleg0, zg_spro, zg_sstp, zg_swrd, zu_srock2, zu_stug2, zu_ssun, zu_ssun0, zu_srock, zu_srock0, zu_stug, zu_stug0, zu_sord, zu_sord0, zu_srep, zu_srep0, zu_scla, zu_scla0, zu_scon, zu_scon0, zu_swin, zu_swin0, zu_sleg, zu_sleg0, zu_spro, zu_sstp, zu_swrd]
theorem T206_kn3 (d L p0 p2 r2 r3 s4 : Nat) (C : zCt) {k t : Nat} (x1 x2 : Int32) (hk : k < 60) (ht : t < 4) : zR d 206 97 [.ref 201, .int x1, .int x2, .int (nI (362 + 8 * k)), .int (nI (160 + 28 * t)), .int 3] [] (zZ L, zI C, zPd p0 p2 r2 r3 s4) = zR d 206 97 [.ref 201, .int x1, .int x2, .int (nI (362 + 8 * k)), .int (nI (160 + 28 * t)), .int 4] [] (zZ L, zI (zcs C 43 (zup (C 43) t 20 (C 45 k 4))), zPd p0 p2 r2 r3 s4) := by
  have e1 : zI C 202 (362 + 8 * k + 1 + 3) = C 45 k 4 := by rw [Nat.add_assoc]; exact zg_srep C hk (by decide)
  rw [e206_97, if_neg (by decide)]
  simp +decide (disch := omega) only [e206_104, zli, e1, zpre, ite_self, Nat.reduceAdd, zs1, zs2, zs3, zI_eqb, and_self, not_true_eq_false, if_true, if_false, ite_true, ite_false, not_false_eq_true, zBP, zBZ, zisO, zisA, zlen, decide_true, decide_false, Bool.and_self, Bool.and_true, Bool.true_and, cond_true, cond_false, zBG, zBR, zBU, zBV, zinb_n, zix_n, zlA, zlB, zlM, zlN, zlX, zlI, nI_add, Nat.add_eq_zero_iff, false_and, and_false, and_true, true_and, true_or, or_true, false_or, or_false, zbool_i, zb0, zb1, zshp_0, zcs_eq, zcs_n, zcs_cs, zup_g, zup_n, zg_srock2, zg_stug2, zg_ssun, zg_ssun0, zg_srock, zg_srock0, zg_stug, zg_stug0, zg_sord, zg_sord0, zg_srep, zg_srep0, zg_scla, zg_scla0, zg_scon, zg_scon0, zg_swin, zg_swin0, zg_sleg, zg_sleg0, zg_spro, zg_sstp, zg_swrd, zu_srock2, zu_stug2, zu_ssun, zu_ssun0, zu_srock, zu_srock0, zu_stug, zu_stug0, zu_sord, zu_sord0, zu_srep, zu_srep0, zu_scla, zu_scla0, zu_scon, zu_scon0, zu_swin, zu_swin0, zu_sleg, zu_sleg0, zu_spro, zu_sstp, zu_swrd]
theorem T206_kn4 (d L p0 p2 r2 r3 s4 : Nat) (C : zCt) {k t : Nat} (x1 x2 : Int32) (hk : k < 60) (ht : t < 4) : zR d 206 97 [.ref 201, .int x1, .int x2, .int (nI (362 + 8 * k)), .int (nI (160 + 28 * t)), .int 4] [] (zZ L, zI C, zPd p0 p2 r2 r3 s4) = zR d 206 97 [.ref 201, .int x1, .int x2, .int (nI (362 + 8 * k)), .int (nI (160 + 28 * t)), .int 5] [] (zZ L, zI (zcs C 43 (zup (C 43) t 21 (C 45 k 5))), zPd p0 p2 r2 r3 s4) := by
  have e1 : zI C 202 (362 + 8 * k + 1 + 4) = C 45 k 5 := by rw [Nat.add_assoc]; exact zg_srep C hk (by decide)
  rw [e206_97, if_neg (by decide)]
  simp +decide (disch := omega) only [e206_104, zli, e1, zpre, ite_self, Nat.reduceAdd, zs1, zs2, zs3, zI_eqb, and_self, not_true_eq_false, if_true, if_false, ite_true, ite_false, not_false_eq_true, zBP, zBZ, zisO, zisA, zlen, decide_true, decide_false, Bool.and_self, Bool.and_true, Bool.true_and, cond_true, cond_false, zBG, zBR, zBU, zBV, zinb_n, zix_n, zlA, zlB, zlM, zlN, zlX, zlI, nI_add, Nat.add_eq_zero_iff, false_and, and_false, and_true, true_and, true_or, or_true, false_or, or_false, zbool_i, zb0, zb1, zshp_0, zcs_eq, zcs_n, zcs_cs, zup_g, zup_n, zg_srock2, zg_stug2, zg_ssun, zg_ssun0, zg_srock, zg_srock0, zg_stug, zg_stug0, zg_sord, zg_sord0, zg_srep, zg_srep0, zg_scla, zg_scla0, zg_scon, zg_scon0, zg_swin, zg_swin0, zg_sleg, zg_sleg0, zg_spro, zg_sstp, zg_swrd, zu_srock2, zu_stug2, zu_ssun, zu_ssun0, zu_srock, zu_srock0, zu_stug, zu_stug0, zu_sord, zu_sord0, zu_srep, zu_srep0, zu_scla, zu_scla0, zu_scon, zu_scon0, zu_swin, zu_swin0, zu_sleg, zu_sleg0, zu_spro, zu_sstp, zu_swrd]
theorem T206_kn5 (d L p0 p2 r2 r3 s4 : Nat) (C : zCt) {k t : Nat} (x1 x2 : Int32) (hk : k < 60) (ht : t < 4) : zR d 206 97 [.ref 201, .int x1, .int x2, .int (nI (362 + 8 * k)), .int (nI (160 + 28 * t)), .int 5] [] (zZ L, zI C, zPd p0 p2 r2 r3 s4) = zR d 206 97 [.ref 201, .int x1, .int x2, .int (nI (362 + 8 * k)), .int (nI (160 + 28 * t)), .int 6] [] (zZ L, zI (zcs C 43 (zup (C 43) t 22 (C 45 k 6))), zPd p0 p2 r2 r3 s4) := by
  have e1 : zI C 202 (362 + 8 * k + 1 + 5) = C 45 k 6 := by rw [Nat.add_assoc]; exact zg_srep C hk (by decide)
  rw [e206_97, if_neg (by decide)]
  simp +decide (disch := omega) only [e206_104, zli, e1, zpre, ite_self, Nat.reduceAdd, zs1, zs2, zs3, zI_eqb, and_self, not_true_eq_false, if_true, if_false, ite_true, ite_false, not_false_eq_true, zBP, zBZ, zisO, zisA, zlen, decide_true, decide_false, Bool.and_self, Bool.and_true, Bool.true_and, cond_true, cond_false, zBG, zBR, zBU, zBV, zinb_n, zix_n, zlA, zlB, zlM, zlN, zlX, zlI, nI_add, Nat.add_eq_zero_iff, false_and, and_false, and_true, true_and, true_or, or_true, false_or, or_false, zbool_i, zb0, zb1, zshp_0, zcs_eq, zcs_n, zcs_cs, zup_g, zup_n, zg_srock2, zg_stug2, zg_ssun, zg_ssun0, zg_srock, zg_srock0, zg_stug, zg_stug0, zg_sord, zg_sord0, zg_srep, zg_srep0, zg_scla, zg_scla0, zg_scon, zg_scon0, zg_swin, zg_swin0, zg_sleg, zg_sleg0, zg_spro, zg_sstp, zg_swrd, zu_srock2, zu_stug2, zu_ssun, zu_ssun0, zu_srock, zu_srock0, zu_stug, zu_stug0, zu_sord, zu_sord0, zu_srep, zu_srep0, zu_scla, zu_scla0, zu_scon, zu_scon0, zu_swin, zu_swin0, zu_sleg, zu_sleg0, zu_spro, zu_sstp, zu_swrd]
theorem T206_due (d L p0 p2 r2 r3 s4 : Nat) (C : zCt) (O : zGp) {k t : Nat} (x1 x2 : Int32) (v4 v5 : Value) (hk : k < 60) (ht : t < 4) (h0 : O k 0 = nI t) (hO : ∀ f, f < 8 → C 45 k f = O k f) : ∃ v, zR d 206 42 [.ref 201, .int x1, .int x2, .int (nI (362 + 8 * k)), v4, v5] [] (zZ L, zI C, zPd p0 p2 r2 r3 s4) = zR d 206 192 [.ref 201, .int x1, .int x2, .int (nI (362 + 8 * k)), .int (nI (160 + 28 * t)), v] [] (zZ L, zI (zcs C 43 (zErB O k (C 43))), zPd p0 p2 r2 r3 s4) := by
  have o0 := hO 0 (by decide)
  have o6 := hO 6 (by decide)
  have hl : zR d 206 97 [.ref 201, .int x1, .int x2, .int (nI (362 + 8 * k)), .int (nI (160 + 28 * t)), .int 0] [] (zZ L, zI C, zPd p0 p2 r2 r3 s4) = zR d 206 134 [.ref 201, .int x1, .int x2, .int (nI (362 + 8 * k)), .int (nI (160 + 28 * t)), .int 6] [] (zZ L, zI (zcs C 43 (zkn6 (C 43) t (O k))), zPd p0 p2 r2 r3 s4) := by
    rw [T206_kn0 d L p0 p2 r2 r3 s4 _ x1 x2 hk ht, T206_kn1 d L p0 p2 r2 r3 s4 _ x1 x2 hk ht, T206_kn2 d L p0 p2 r2 r3 s4 _ x1 x2 hk ht, T206_kn3 d L p0 p2 r2 r3 s4 _ x1 x2 hk ht, T206_kn4 d L p0 p2 r2 r3 s4 _ x1 x2 hk ht, T206_kn5 d L p0 p2 r2 r3 s4 _ x1 x2 hk ht, e206_97, if_pos (by decide)]
    unfold zkn6
    simp (disch := omega) only [zcs_cs, zcs_eq, zcs_n]
    rw [hO 1 (by decide), hO 2 (by decide), hO 3 (by decide), hO 4 (by decide), hO 5 (by decide), o6]
  unfold zErB
  rw [h0, zix_n (by omega)]
  by_cases h1 : C 43 t 16 = 0
  · refine ⟨.int 6, ?_⟩
    rw [if_pos (Or.inl h1)]
    simp +decide (disch := omega) only [e206_42, e206_70, e206_94, e206_134, o0, o6, h0, h1, hl, zpre, ite_self, Nat.reduceAdd, zs1, zs2, zs3, zI_eqb, and_self, not_true_eq_false, if_true, if_false, ite_true, ite_false, not_false_eq_true, zBP, zBZ, zisO, zisA, zlen, decide_true, decide_false, Bool.and_self, Bool.and_true, Bool.true_and, cond_true, cond_false, zBG, zBR, zBU, zBV, zinb_n, zix_n, zlA, zlB, zlM, zlN, zlX, zlI, nI_add, Nat.add_eq_zero_iff, false_and, and_false, and_true, true_and, true_or, or_true, false_or, or_false, zbool_i, zb0, zb1, zshp_0, zcs_eq, zcs_n, zcs_cs, zup_g, zup_n, zg_srock2, zg_stug2, zg_ssun, zg_ssun0, zg_srock, zg_srock0, zg_stug, zg_stug0, zg_sord, zg_sord0, zg_srep, zg_srep0, zg_scla, zg_scla0, zg_scon, zg_scon0, zg_swin, zg_swin0, zg_sleg, zg_sleg0, zg_spro, zg_sstp, zg_swrd, zu_srock2, zu_stug2, zu_ssun, zu_ssun0, zu_srock, zu_srock0, zu_stug, zu_stug0, zu_sord, zu_sord0, zu_srep, zu_srep0, zu_scla, zu_scla0, zu_scon, zu_scon0, zu_swin, zu_swin0, zu_sleg, zu_sleg0, zu_spro, zu_sstp, zu_swrd]
  · by_cases h2 : C 43 t 22 < O k 6
    · have h2' := Int32.not_le.mpr h2
      refine ⟨.int 6, ?_⟩
      rw [if_pos (Or.inr h2)]
      simp +decide (disch := omega) only [e206_42, e206_70, e206_94, e206_134, o0, o6, h0, h1, h2, h2', hl, zpre, ite_self, Nat.reduceAdd, zs1, zs2, zs3, zI_eqb, and_self, not_true_eq_false, if_true, if_false, ite_true, ite_false, not_false_eq_true, zBP, zBZ, zisO, zisA, zlen, decide_true, decide_false, Bool.and_self, Bool.and_true, Bool.true_and, cond_true, cond_false, zBG, zBR, zBU, zBV, zinb_n, zix_n, zlA, zlB, zlM, zlN, zlX, zlI, nI_add, Nat.add_eq_zero_iff, false_and, and_false, and_true, true_and, true_or, or_true, false_or, or_false, zbool_i, zb0, zb1, zshp_0, zcs_eq, zcs_n, zcs_cs, zup_g, zup_n, zg_srock2, zg_stug2, zg_ssun, zg_ssun0, zg_srock, zg_srock0, zg_stug, zg_stug0, zg_sord, zg_sord0, zg_srep, zg_srep0, zg_scla, zg_scla0, zg_scon, zg_scon0, zg_swin, zg_swin0, zg_sleg, zg_sleg0, zg_spro, zg_sstp, zg_swrd, zu_srock2, zu_stug2, zu_ssun, zu_ssun0, zu_srock, zu_srock0, zu_stug, zu_stug0, zu_sord, zu_sord0, zu_srep, zu_srep0, zu_scla, zu_scla0, zu_scon, zu_scon0, zu_swin, zu_swin0, zu_sleg, zu_sleg0, zu_spro, zu_sstp, zu_swrd]
    · have h2' := Int32.not_lt.mp h2
      refine ⟨v5, ?_⟩
      rw [if_neg (fun q => q.elim h1 h2)]
      simp +decide (disch := omega) only [e206_42, e206_70, e206_94, e206_134, o0, o6, h0, h1, h2, h2', hl, zpre, ite_self, Nat.reduceAdd, zs1, zs2, zs3, zI_eqb, and_self, not_true_eq_false, if_true, if_false, ite_true, ite_false, not_false_eq_true, zBP, zBZ, zisO, zisA, zlen, decide_true, decide_false, Bool.and_self, Bool.and_true, Bool.true_and, cond_true, cond_false, zBG, zBR, zBU, zBV, zinb_n, zix_n, zlA, zlB, zlM, zlN, zlX, zlI, nI_add, Nat.add_eq_zero_iff, false_and, and_false, and_true, true_and, true_or, or_true, false_or, or_false, zbool_i, zb0, zb1, zshp_0, zcs_eq, zcs_n, zcs_cs, zup_g, zup_n, zg_srock2, zg_stug2, zg_ssun, zg_ssun0, zg_srock, zg_srock0, zg_stug, zg_stug0, zg_sord, zg_sord0, zg_srep, zg_srep0, zg_scla, zg_scla0, zg_scon, zg_scon0, zg_swin, zg_swin0, zg_sleg, zg_sleg0, zg_spro, zg_sstp, zg_swrd, zu_srock2, zu_stug2, zu_ssun, zu_ssun0, zu_srock, zu_srock0, zu_stug, zu_stug0, zu_sord, zu_sord0, zu_srep, zu_srep0, zu_scla, zu_scla0, zu_scon, zu_scon0, zu_swin, zu_swin0, zu_sleg, zu_sleg0, zu_spro, zu_sstp, zu_swrd]
theorem Q205 (d L p0 p2 r2 r3 s4 : Nat) (n : Nat) (O : zGp) (hn : n ≤ 30) (nt : Nat) (ht4 : nt ≤ 4) (hP : ∀ i, i < n → ∃ t p, t < nt ∧ p < 4 ∧ O i 0 = nI t ∧ O i 1 = nI p) : ∀ (m k l : Nat) (C : zCt) (v3 v4 : Value), C 40 0 7 = nI n → (∀ i, k ≤ i → i < n → ∀ f, f < 3 → C 44 i f = O i f) → k + m = n → l ≤ k → zR d 205 4 [.ref 201, .int (nI l), .int (nI k), v3, v4] [] (zZ L, zI C, zPd p0 p2 r2 r3 s4) = some (none, (zZ L, zI (zcs (zcs (zcs C 43 (zqe (zEoB O (C 40)) (fun i => O i 2) (C 40 0 0) m k (C 43))) 44 (zdu 3 (C 40 0 0) m k l (C 44)).1) 40 (zup (C 40) 0 7 (nI (zdu 3 (C 40 0 0) m k l (C 44)).2))), zPd p0 p2 r2 r3 s4)) := by
  intro m
  induction m with
  | zero =>
    intro k l C v3 v4 hC hO hk hl
    have hk : k = n := by omega
    subst hk
    have h1 : nI k ≤ nI k := Int32.le_refl _
    unfold zqe zdu
    rw [zcs_self, zcs_self, e205_4v]
    simp +decide (disch := omega) only [e205_163, hC, h1, zpre, ite_self, Nat.reduceAdd, zs1, zs2, zs3, zI_eqb, and_self, not_true_eq_false, if_true, if_false, ite_true, ite_false, not_false_eq_true, zBP, zBZ, zisO, zisA, zlen, decide_true, decide_false, Bool.and_self, Bool.and_true, Bool.true_and, cond_true, cond_false, zBG, zBR, zBU, zBV, zinb_n, zix_n, zlA, zlB, zlM, zlN, zlX, zlI, nI_add, Nat.add_eq_zero_iff, false_and, and_false, and_true, true_and, true_or, or_true, false_or, or_false, zbool_i, zb0, zb1, zshp_0, zcs_eq, zcs_n, zcs_cs, zup_g, zup_n, zg_srock2, zg_stug2, zg_ssun, zg_ssun0, zg_srock, zg_srock0, zg_stug, zg_stug0, zg_sord, zg_sord0, zg_srep, zg_srep0, zg_scla, zg_scla0, zg_scon, zg_scon0, zg_swin, zg_swin0, zg_sleg, zg_sleg0, zg_spro, zg_sstp, zg_swrd, zu_srock2, zu_stug2, zu_ssun, zu_ssun0, zu_srock, zu_srock0, zu_stug, zu_stug0, zu_sord, zu_sord0, zu_srep, zu_srep0, zu_scla, zu_scla0, zu_scon, zu_scon0, zu_swin, zu_swin0, zu_sleg, zu_sleg0, zu_spro, zu_sstp, zu_swrd]
  | succ m ih =>
    intro k l C v3 v4 hC hO hk hl
    have hge : ¬ nI n ≤ nI k := nI_ge (by omega) (by omega)
    have hkc : k < 30 := by omega
    have hk1 : nI k + 1 = nI (k + 1) := nI_add k 1
    have od : C 44 k 2 = O k 2 := hO k (by omega) (by omega) 2 (by decide)
    have hcc : ∀ W X Y : zGp, zcs (zcs (zcs C 44 W) 43 X) 44 Y = zcs (zcs C 43 X) 44 Y := by
      intro W X Y
      rw [zcs_comm (zcs C 44 W) X Y (by decide), zcs_cs, ← zcs_comm C X Y (by decide)]
    unfold zqe zdu
    rw [show C 44 k (3 - 1) = O k 2 from od]
    by_cases h : O k 2 ≤ C 40 0 0
    · have h' : ¬ C 40 0 0 < O k 2 := Int32.not_lt.mpr h
      rw [if_pos h, if_pos h]
      obtain ⟨t, p, ht, hp, h0, h1⟩ := hP k (by omega)
      have ht4' : t < 4 := by omega
      have o0 := hO k (by omega) (by omega) 0 (by decide)
      have o1 := hO k (by omega) (by omega) 1 (by decide)
      have hE : zEoB O (C 40) k (C 43) = zup (zup (C 43) t 10 (if C 40 0 (14 + p) = 0 then -1 else nI p)) t 15 0 := by
        unfold zEoB
        rw [h0, h1, zix_n (by omega), zix_n (by omega)]
      have hi := ih (k + 1) l (zcs C 43 (zEoB O (C 40) k (C 43))) (.int (nI (272 + 3 * k))) (.int (nI (160 + 28 * t))) (by rw [zcs_n _ _ (by decide)]; exact hC) (fun i h1 h2 f hf => by rw [zcs_n _ _ (by decide)]; exact hO i (by omega) h2 f hf) (by omega) (by omega)
      simp (disch := omega) only [zcs_cs, zcs_eq, zcs_n] at hi
      rw [← hi, e205_4v]
      rw [hE]
      by_cases hv : C 40 0 (14 + p) = 0
      · rw [if_pos hv]
        simp +decide (disch := omega) only [e205_15, e205_40, e205_88, e205_92, e205_100, e205_157, hC, hge, od, o0, o1, h', h0, h1, hv, hk1, zpre, ite_self, Nat.reduceAdd, zs1, zs2, zs3, zI_eqb, and_self, not_true_eq_false, if_true, if_false, ite_true, ite_false, not_false_eq_true, zBP, zBZ, zisO, zisA, zlen, decide_true, decide_false, Bool.and_self, Bool.and_true, Bool.true_and, cond_true, cond_false, zBG, zBR, zBU, zBV, zinb_n, zix_n, zlA, zlB, zlM, zlN, zlX, zlI, nI_add, Nat.add_eq_zero_iff, false_and, and_false, and_true, true_and, true_or, or_true, false_or, or_false, zbool_i, zb0, zb1, zshp_0, zcs_eq, zcs_n, zcs_cs, zup_g, zup_n, zg_srock2, zg_stug2, zg_ssun, zg_ssun0, zg_srock, zg_srock0, zg_stug, zg_stug0, zg_sord, zg_sord0, zg_srep, zg_srep0, zg_scla, zg_scla0, zg_scon, zg_scon0, zg_swin, zg_swin0, zg_sleg, zg_sleg0, zg_spro, zg_sstp, zg_swrd, zu_srock2, zu_stug2, zu_ssun, zu_ssun0, zu_srock, zu_srock0, zu_stug, zu_stug0, zu_sord, zu_sord0, zu_srep, zu_srep0, zu_scla, zu_scla0, zu_scon, zu_scon0, zu_swin, zu_swin0, zu_sleg, zu_sleg0, zu_spro, zu_sstp, zu_swrd]
      · rw [if_neg hv]
        simp +decide (disch := omega) only [e205_15, e205_40, e205_88, e205_92, e205_100, e205_157, hC, hge, od, o0, o1, h', h0, h1, hv, hk1, zpre, ite_self, Nat.reduceAdd, zs1, zs2, zs3, zI_eqb, and_self, not_true_eq_false, if_true, if_false, ite_true, ite_false, not_false_eq_true, zBP, zBZ, zisO, zisA, zlen, decide_true, decide_false, Bool.and_self, Bool.and_true, Bool.true_and, cond_true, cond_false, zBG, zBR, zBU, zBV, zinb_n, zix_n, zlA, zlB, zlM, zlN, zlX, zlI, nI_add, Nat.add_eq_zero_iff, false_and, and_false, and_true, true_and, true_or, or_true, false_or, or_false, zbool_i, zb0, zb1, zshp_0, zcs_eq, zcs_n, zcs_cs, zup_g, zup_n, zg_srock2, zg_stug2, zg_ssun, zg_ssun0, zg_srock, zg_srock0, zg_stug, zg_stug0, zg_sord, zg_sord0, zg_srep, zg_srep0, zg_scla, zg_scla0, zg_scon, zg_scon0, zg_swin, zg_swin0, zg_sleg, zg_sleg0, zg_spro, zg_sstp, zg_swrd, zu_srock2, zu_stug2, zu_ssun, zu_ssun0, zu_srock, zu_srock0, zu_stug, zu_stug0, zu_sord, zu_sord0, zu_srep, zu_srep0, zu_scla, zu_scla0, zu_scon, zu_scon0, zu_swin, zu_swin0, zu_sleg, zu_sleg0, zu_spro, zu_sstp, zu_swrd]
    · have h' : C 40 0 0 < O k 2 := Int32.not_le.mp h
      rw [if_neg h, if_neg h]
      have hcp := T205_copy d L p0 p2 r2 r3 s4 C (k := k) (l := l) (nI k) v4 (by omega) (by omega)
      have hi := ih (k + 1) (l + 1) (zcs C 44 (zcr (C 44) 3 l k)) (.int (nI (272 + 3 * k))) (.int 3) (by rw [zcs_n _ _ (by decide)]; exact hC) (fun i h1 h2 f hf => by
        rw [zcs_eq]
        unfold zcr
        rw [if_neg (by omega)]
        exact hO i (by omega) h2 f hf) (by omega) (by omega)
      simp (disch := omega) only [zcs_eq, zcs_n, hcc] at hi
      rw [← hi, e205_4v]
      simp +decide (disch := omega) only [e205_15, hC, hge, od, h', hcp, hk1, zpre, ite_self, Nat.reduceAdd, zs1, zs2, zs3, zI_eqb, and_self, not_true_eq_false, if_true, if_false, ite_true, ite_false, not_false_eq_true, zBP, zBZ, zisO, zisA, zlen, decide_true, decide_false, Bool.and_self, Bool.and_true, Bool.true_and, cond_true, cond_false, zBG, zBR, zBU, zBV, zinb_n, zix_n, zlA, zlB, zlM, zlN, zlX, zlI, nI_add, Nat.add_eq_zero_iff, false_and, and_false, and_true, true_and, true_or, or_true, false_or, or_false, zbool_i, zb0, zb1, zshp_0, zcs_eq, zcs_n, zcs_cs, zup_g, zup_n, zg_srock2, zg_stug2, zg_ssun, zg_ssun0, zg_srock, zg_srock0, zg_stug, zg_stug0, zg_sord, zg_sord0, zg_srep, zg_srep0, zg_scla, zg_scla0, zg_scon, zg_scon0, zg_swin, zg_swin0, zg_sleg, zg_sleg0, zg_spro, zg_sstp, zg_swrd, zu_srock2, zu_stug2, zu_ssun, zu_ssun0, zu_srock, zu_srock0, zu_stug, zu_stug0, zu_sord, zu_sord0, zu_srep, zu_srep0, zu_scla, zu_scla0, zu_scon, zu_scon0, zu_swin, zu_swin0, zu_sleg, zu_sleg0, zu_spro, zu_sstp, zu_swrd]
theorem Q206 (d L p0 p2 r2 r3 s4 : Nat) (n : Nat) (O : zGp) (hn : n ≤ 60) (nt : Nat) (ht4 : nt ≤ 4) (hP : ∀ i, i < n → ∃ t, t < nt ∧ O i 0 = nI t) : ∀ (m k l : Nat) (C : zCt) (v3 v4 v5 : Value), C 40 0 8 = nI n → (∀ i, k ≤ i → i < n → ∀ f, f < 8 → C 45 i f = O i f) → k + m = n → l ≤ k → zR d 206 4 [.ref 201, .int (nI l), .int (nI k), v3, v4, v5] [] (zZ L, zI C, zPd p0 p2 r2 r3 s4) = some (none, (zZ L, zI (zcs (zcs (zcs C 43 (zqe (zErB O) (fun i => O i 7) (C 40 0 0) m k (C 43))) 45 (zdu 8 (C 40 0 0) m k l (C 45)).1) 40 (zup (C 40) 0 8 (nI (zdu 8 (C 40 0 0) m k l (C 45)).2))), zPd p0 p2 r2 r3 s4)) := by
  intro m
  induction m with
  | zero =>
    intro k l C v3 v4 v5 hC hO hk hl
    have hk : k = n := by omega
    subst hk
    have h1 : nI k ≤ nI k := Int32.le_refl _
    unfold zqe zdu
    rw [zcs_self, zcs_self, e206_4v]
    simp +decide (disch := omega) only [e206_198, hC, h1, zpre, ite_self, Nat.reduceAdd, zs1, zs2, zs3, zI_eqb, and_self, not_true_eq_false, if_true, if_false, ite_true, ite_false, not_false_eq_true, zBP, zBZ, zisO, zisA, zlen, decide_true, decide_false, Bool.and_self, Bool.and_true, Bool.true_and, cond_true, cond_false, zBG, zBR, zBU, zBV, zinb_n, zix_n, zlA, zlB, zlM, zlN, zlX, zlI, nI_add, Nat.add_eq_zero_iff, false_and, and_false, and_true, true_and, true_or, or_true, false_or, or_false, zbool_i, zb0, zb1, zshp_0, zcs_eq, zcs_n, zcs_cs, zup_g, zup_n, zg_srock2, zg_stug2, zg_ssun, zg_ssun0, zg_srock, zg_srock0, zg_stug, zg_stug0, zg_sord, zg_sord0, zg_srep, zg_srep0, zg_scla, zg_scla0, zg_scon, zg_scon0, zg_swin, zg_swin0, zg_sleg, zg_sleg0, zg_spro, zg_sstp, zg_swrd, zu_srock2, zu_stug2, zu_ssun, zu_ssun0, zu_srock, zu_srock0, zu_stug, zu_stug0, zu_sord, zu_sord0, zu_srep, zu_srep0, zu_scla, zu_scla0, zu_scon, zu_scon0, zu_swin, zu_swin0, zu_sleg, zu_sleg0, zu_spro, zu_sstp, zu_swrd]
  | succ m ih =>
    intro k l C v3 v4 v5 hC hO hk hl
    have hge : ¬ nI n ≤ nI k := nI_ge (by omega) (by omega)
    have hkc : k < 60 := by omega
    have hk1 : nI k + 1 = nI (k + 1) := nI_add k 1
    have od : C 45 k 7 = O k 7 := hO k (by omega) (by omega) 7 (by decide)
    have hcc : ∀ W X Y : zGp, zcs (zcs (zcs C 45 W) 43 X) 45 Y = zcs (zcs C 43 X) 45 Y := by
      intro W X Y
      rw [zcs_comm (zcs C 45 W) X Y (by decide), zcs_cs, ← zcs_comm C X Y (by decide)]
    unfold zqe zdu
    rw [show C 45 k (8 - 1) = O k 7 from od]
    by_cases h : O k 7 ≤ C 40 0 0
    · have h' : ¬ C 40 0 0 < O k 7 := Int32.not_lt.mpr h
      rw [if_pos h, if_pos h]
      obtain ⟨t, ht, h0⟩ := hP k (by omega)
      obtain ⟨v, h206⟩ := T206_due d L p0 p2 r2 r3 s4 C O (k := k) (t := t) (nI l) (nI k) v4 v5 (by omega) (by omega) h0 (fun f hf => hO k (by omega) (by omega) f hf)
      have hi := ih (k + 1) l (zcs C 43 (zErB O k (C 43))) (.int (nI (362 + 8 * k))) (.int (nI (160 + 28 * t))) v (by rw [zcs_n _ _ (by decide)]; exact hC) (fun i h1 h2 f hf => by rw [zcs_n _ _ (by decide)]; exact hO i (by omega) h2 f hf) (by omega) (by omega)
      simp (disch := omega) only [zcs_cs, zcs_eq, zcs_n] at hi
      rw [← hi, e206_4v]
      simp +decide (disch := omega) only [e206_15, hC, hge, od, h', h206, e206_192, hk1, zpre, ite_self, Nat.reduceAdd, zs1, zs2, zs3, zI_eqb, and_self, not_true_eq_false, if_true, if_false, ite_true, ite_false, not_false_eq_true, zBP, zBZ, zisO, zisA, zlen, decide_true, decide_false, Bool.and_self, Bool.and_true, Bool.true_and, cond_true, cond_false, zBG, zBR, zBU, zBV, zinb_n, zix_n, zlA, zlB, zlM, zlN, zlX, zlI, nI_add, Nat.add_eq_zero_iff, false_and, and_false, and_true, true_and, true_or, or_true, false_or, or_false, zbool_i, zb0, zb1, zshp_0, zcs_eq, zcs_n, zcs_cs, zup_g, zup_n, zg_srock2, zg_stug2, zg_ssun, zg_ssun0, zg_srock, zg_srock0, zg_stug, zg_stug0, zg_sord, zg_sord0, zg_srep, zg_srep0, zg_scla, zg_scla0, zg_scon, zg_scon0, zg_swin, zg_swin0, zg_sleg, zg_sleg0, zg_spro, zg_sstp, zg_swrd, zu_srock2, zu_stug2, zu_ssun, zu_ssun0, zu_srock, zu_srock0, zu_stug, zu_stug0, zu_sord, zu_sord0, zu_srep, zu_srep0, zu_scla, zu_scla0, zu_scon, zu_scon0, zu_swin, zu_swin0, zu_sleg, zu_sleg0, zu_spro, zu_sstp, zu_swrd]
    · have h' : C 40 0 0 < O k 7 := Int32.not_le.mp h
      rw [if_neg h, if_neg h]
      have hcp := T206_copy d L p0 p2 r2 r3 s4 C (k := k) (l := l) (nI k) v4 v5 (by omega) (by omega)
      have hi := ih (k + 1) (l + 1) (zcs C 45 (zcr (C 45) 8 l k)) (.int (nI (362 + 8 * k))) (.int 8) v5 (by rw [zcs_n _ _ (by decide)]; exact hC) (fun i h1 h2 f hf => by
        rw [zcs_eq]
        unfold zcr
        rw [if_neg (by omega)]
        exact hO i (by omega) h2 f hf) (by omega) (by omega)
      simp (disch := omega) only [zcs_eq, zcs_n, hcc] at hi
      rw [← hi, e206_4v]
      simp +decide (disch := omega) only [e206_15, hC, hge, od, h', hcp, hk1, zpre, ite_self, Nat.reduceAdd, zs1, zs2, zs3, zI_eqb, and_self, not_true_eq_false, if_true, if_false, ite_true, ite_false, not_false_eq_true, zBP, zBZ, zisO, zisA, zlen, decide_true, decide_false, Bool.and_self, Bool.and_true, Bool.true_and, cond_true, cond_false, zBG, zBR, zBU, zBV, zinb_n, zix_n, zlA, zlB, zlM, zlN, zlX, zlI, nI_add, Nat.add_eq_zero_iff, false_and, and_false, and_true, true_and, true_or, or_true, false_or, or_false, zbool_i, zb0, zb1, zshp_0, zcs_eq, zcs_n, zcs_cs, zup_g, zup_n, zg_srock2, zg_stug2, zg_ssun, zg_ssun0, zg_srock, zg_srock0, zg_stug, zg_stug0, zg_sord, zg_sord0, zg_srep, zg_srep0, zg_scla, zg_scla0, zg_scon, zg_scon0, zg_swin, zg_swin0, zg_sleg, zg_sleg0, zg_spro, zg_sstp, zg_swrd, zu_srock2, zu_stug2, zu_ssun, zu_ssun0, zu_srock, zu_srock0, zu_stug, zu_stug0, zu_sord, zu_sord0, zu_srep, zu_srep0, zu_scla, zu_scla0, zu_scon, zu_scon0, zu_swin, zu_swin0, zu_sleg, zu_sleg0, zu_spro, zu_sstp, zu_swrd]
theorem Q207 (d L p0 p2 r2 r3 s4 : Nat) (n : Nat) (O : zGp) (hn : n ≤ 20) (nr : Nat) (hr8 : nr ≤ 8) (hP : ∀ i, i < n → ∃ r, r < nr ∧ O i 1 = nI r) : ∀ (m k l : Nat) (C : zCt) (v3 v4 : Value), C 40 0 9 = nI n → (∀ i, k ≤ i → i < n → ∀ f, f < 3 → C 46 i f = O i f) → k + m = n → l ≤ k → zR d 207 4 [.ref 201, .int (nI l), .int (nI k), v3, v4] [] (zZ L, zI C, zPd p0 p2 r2 r3 s4) = some (none, (zZ L, zI (zcs (zcs (zcs C 42 (zqe (zEcB O) (fun i => O i 2) (C 40 0 0) m k (C 42))) 46 (zdu 3 (C 40 0 0) m k l (C 46)).1) 40 (zup (C 40) 0 9 (nI (zdu 3 (C 40 0 0) m k l (C 46)).2))), zPd p0 p2 r2 r3 s4)) := by
  intro m
  induction m with
  | zero =>
    intro k l C v3 v4 hC hO hk hl
    have hk : k = n := by omega
    subst hk
    have h1 : nI k ≤ nI k := Int32.le_refl _
    unfold zqe zdu
    rw [zcs_self, zcs_self, e207_4v]
    simp +decide (disch := omega) only [e207_144, hC, h1, zpre, ite_self, Nat.reduceAdd, zs1, zs2, zs3, zI_eqb, and_self, not_true_eq_false, if_true, if_false, ite_true, ite_false, not_false_eq_true, zBP, zBZ, zisO, zisA, zlen, decide_true, decide_false, Bool.and_self, Bool.and_true, Bool.true_and, cond_true, cond_false, zBG, zBR, zBU, zBV, zinb_n, zix_n, zlA, zlB, zlM, zlN, zlX, zlI, nI_add, Nat.add_eq_zero_iff, false_and, and_false, and_true, true_and, true_or, or_true, false_or, or_false, zbool_i, zb0, zb1, zshp_0, zcs_eq, zcs_n, zcs_cs, zup_g, zup_n, zg_srock2, zg_stug2, zg_ssun, zg_ssun0, zg_srock, zg_srock0, zg_stug, zg_stug0, zg_sord, zg_sord0, zg_srep, zg_srep0, zg_scla, zg_scla0, zg_scon, zg_scon0, zg_swin, zg_swin0, zg_sleg, zg_sleg0, zg_spro, zg_sstp, zg_swrd, zu_srock2, zu_stug2, zu_ssun, zu_ssun0, zu_srock, zu_srock0, zu_stug, zu_stug0, zu_sord, zu_sord0, zu_srep, zu_srep0, zu_scla, zu_scla0, zu_scon, zu_scon0, zu_swin, zu_swin0, zu_sleg, zu_sleg0, zu_spro, zu_sstp, zu_swrd]
  | succ m ih =>
    intro k l C v3 v4 hC hO hk hl
    have hge : ¬ nI n ≤ nI k := nI_ge (by omega) (by omega)
    have hkc : k < 20 := by omega
    have hk1 : nI k + 1 = nI (k + 1) := nI_add k 1
    have od : C 46 k 2 = O k 2 := hO k (by omega) (by omega) 2 (by decide)
    have hcc : ∀ W X Y : zGp, zcs (zcs (zcs C 46 W) 42 X) 46 Y = zcs (zcs C 42 X) 46 Y := by
      intro W X Y
      rw [zcs_comm (zcs C 46 W) X Y (by decide), zcs_cs, ← zcs_comm C X Y (by decide)]
    unfold zqe zdu
    rw [show C 46 k (3 - 1) = O k 2 from od]
    by_cases h : O k 2 ≤ C 40 0 0
    · have h' : ¬ C 40 0 0 < O k 2 := Int32.not_lt.mpr h
      rw [if_pos h, if_pos h]
      obtain ⟨r, hr, h0⟩ := hP k (by omega)
      have hr8' : r < 8 := by omega
      have o0 := hO k (by omega) (by omega) 0 (by decide)
      have o1 := hO k (by omega) (by omega) 1 (by decide)
      have hE : zEcB O k (C 42) = zup (C 42) r 10 (if C 42 r 10 = -1 then O k 0 else C 42 r 10) := by
        unfold zEcB
        rw [h0, zix_n (by omega)]
      have hi := ih (k + 1) l (zcs C 42 (zEcB O k (C 42))) (.int (nI (842 + 3 * k))) (.int (nI (30 + 16 * r + 10))) (by rw [zcs_n _ _ (by decide)]; exact hC) (fun i h1 h2 f hf => by rw [zcs_n _ _ (by decide)]; exact hO i (by omega) h2 f hf) (by omega) (by omega)
      simp (disch := omega) only [zcs_cs, zcs_eq, zcs_n] at hi
      rw [← hi, e207_4v]
      rw [hE]
      by_cases hv' : C 42 r 10 = -1
      · have hv := eq_true hv'
        rw [if_pos hv']
        simp +decide (disch := omega) only [e207_15, e207_40, e207_76, e207_85, e207_92, e207_138, hC, hge, od, o0, o1, h', h0, hv, hk1, zpre, ite_self, Nat.reduceAdd, zs1, zs2, zs3, zI_eqb, and_self, not_true_eq_false, if_true, if_false, ite_true, ite_false, not_false_eq_true, zBP, zBZ, zisO, zisA, zlen, decide_true, decide_false, Bool.and_self, Bool.and_true, Bool.true_and, cond_true, cond_false, zBG, zBR, zBU, zBV, zinb_n, zix_n, zlA, zlB, zlM, zlN, zlX, zlI, nI_add, Nat.add_eq_zero_iff, false_and, and_false, and_true, true_and, true_or, or_true, false_or, or_false, zbool_i, zb0, zb1, zshp_0, zcs_eq, zcs_n, zcs_cs, zup_g, zup_n, zg_srock2, zg_stug2, zg_ssun, zg_ssun0, zg_srock, zg_srock0, zg_stug, zg_stug0, zg_sord, zg_sord0, zg_srep, zg_srep0, zg_scla, zg_scla0, zg_scon, zg_scon0, zg_swin, zg_swin0, zg_sleg, zg_sleg0, zg_spro, zg_sstp, zg_swrd, zu_srock2, zu_stug2, zu_ssun, zu_ssun0, zu_srock, zu_srock0, zu_stug, zu_stug0, zu_sord, zu_sord0, zu_srep, zu_srep0, zu_scla, zu_scla0, zu_scon, zu_scon0, zu_swin, zu_swin0, zu_sleg, zu_sleg0, zu_spro, zu_sstp, zu_swrd]
      · have hv := eq_false hv'
        rw [if_neg hv']
        simp +decide (disch := omega) only [e207_15, e207_40, e207_76, e207_85, e207_92, e207_138, hC, hge, od, o0, o1, h', h0, hv, hk1, zpre, ite_self, Nat.reduceAdd, zs1, zs2, zs3, zI_eqb, and_self, not_true_eq_false, if_true, if_false, ite_true, ite_false, not_false_eq_true, zBP, zBZ, zisO, zisA, zlen, decide_true, decide_false, Bool.and_self, Bool.and_true, Bool.true_and, cond_true, cond_false, zBG, zBR, zBU, zBV, zinb_n, zix_n, zlA, zlB, zlM, zlN, zlX, zlI, nI_add, Nat.add_eq_zero_iff, false_and, and_false, and_true, true_and, true_or, or_true, false_or, or_false, zbool_i, zb0, zb1, zshp_0, zcs_eq, zcs_n, zcs_cs, zup_g, zup_n, zg_srock2, zg_stug2, zg_ssun, zg_ssun0, zg_srock, zg_srock0, zg_stug, zg_stug0, zg_sord, zg_sord0, zg_srep, zg_srep0, zg_scla, zg_scla0, zg_scon, zg_scon0, zg_swin, zg_swin0, zg_sleg, zg_sleg0, zg_spro, zg_sstp, zg_swrd, zu_srock2, zu_stug2, zu_ssun, zu_ssun0, zu_srock, zu_srock0, zu_stug, zu_stug0, zu_sord, zu_sord0, zu_srep, zu_srep0, zu_scla, zu_scla0, zu_scon, zu_scon0, zu_swin, zu_swin0, zu_sleg, zu_sleg0, zu_spro, zu_sstp, zu_swrd]
    · have h' : C 40 0 0 < O k 2 := Int32.not_le.mp h
      rw [if_neg h, if_neg h]
      have hcp := T207_copy d L p0 p2 r2 r3 s4 C (k := k) (l := l) (nI k) v4 (by omega) (by omega)
      have hi := ih (k + 1) (l + 1) (zcs C 46 (zcr (C 46) 3 l k)) (.int (nI (842 + 3 * k))) (.int 3) (by rw [zcs_n _ _ (by decide)]; exact hC) (fun i h1 h2 f hf => by
        rw [zcs_eq]
        unfold zcr
        rw [if_neg (by omega)]
        exact hO i (by omega) h2 f hf) (by omega) (by omega)
      simp (disch := omega) only [zcs_eq, zcs_n, hcc] at hi
      rw [← hi, e207_4v]
      simp +decide (disch := omega) only [e207_15, hC, hge, od, h', hcp, hk1, zpre, ite_self, Nat.reduceAdd, zs1, zs2, zs3, zI_eqb, and_self, not_true_eq_false, if_true, if_false, ite_true, ite_false, not_false_eq_true, zBP, zBZ, zisO, zisA, zlen, decide_true, decide_false, Bool.and_self, Bool.and_true, Bool.true_and, cond_true, cond_false, zBG, zBR, zBU, zBV, zinb_n, zix_n, zlA, zlB, zlM, zlN, zlX, zlI, nI_add, Nat.add_eq_zero_iff, false_and, and_false, and_true, true_and, true_or, or_true, false_or, or_false, zbool_i, zb0, zb1, zshp_0, zcs_eq, zcs_n, zcs_cs, zup_g, zup_n, zg_srock2, zg_stug2, zg_ssun, zg_ssun0, zg_srock, zg_srock0, zg_stug, zg_stug0, zg_sord, zg_sord0, zg_srep, zg_srep0, zg_scla, zg_scla0, zg_scon, zg_scon0, zg_swin, zg_swin0, zg_sleg, zg_sleg0, zg_spro, zg_sstp, zg_swrd, zu_srock2, zu_stug2, zu_ssun, zu_ssun0, zu_srock, zu_srock0, zu_stug, zu_stug0, zu_sord, zu_sord0, zu_srep, zu_srep0, zu_scla, zu_scla0, zu_scon, zu_scon0, zu_swin, zu_swin0, zu_sleg, zu_sleg0, zu_spro, zu_sstp, zu_swrd]
