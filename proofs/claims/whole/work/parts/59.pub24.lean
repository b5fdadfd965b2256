/-! THE TOUR: the model (2), printed by wip/gen/pub24.py -/
theorem T245_3 (d L p0 p2 r2 r3 s4 many k : Nat) (C : zCt) (x3 : Int32) (hm : many ≤ 6) : ∀ (m j : Nat) (v5 v6 v7 : Value), j + m = many → ((∀ i, j ≤ i → i < many → C 415 0 i ≠ nI k) → zR d 245 3 [.ref 201, .int (nI many), .int (nI k), .int x3, .int (nI j), v5, v6, v7] [] (zZ L, zI C, zPd p0 p2 r2 r3 s4) = zR d 245 28 [.ref 201, .int (nI many), .int (nI k), .int x3, .int (nI many), v5, v6, v7] [] (zZ L, zI C, zPd p0 p2 r2 r3 s4)) ∧ ((∃ i, j ≤ i ∧ i < many ∧ C 415 0 i = nI k) → zR d 245 3 [.ref 201, .int (nI many), .int (nI k), .int x3, .int (nI j), v5, v6, v7] [] (zZ L, zI C, zPd p0 p2 r2 r3 s4) = some (some (.int 0), (zZ L, zI C, zPd p0 p2 r2 r3 s4))) := by
  intro m
  induction m with
  | zero =>
    intro j v5 v6 v7 hj
    have hj : j = many := by omega
    subst hj
    refine ⟨fun _ => by rw [e245_3, if_pos (Int32.le_refl _)], fun ⟨i, h1, h2, _⟩ => absurd h2 (by omega)⟩
  | succ m ih =>
    intro j v5 v6 v7 hj
    have hge : ¬ nI many ≤ nI j := nI_ge (by omega) (by omega)
    obtain ⟨i1, i2⟩ := ih (j + 1) v5 v6 v7 (by omega)
    by_cases h : C 415 0 j = nI k
    · refine ⟨fun q => absurd h (q j (by omega) (by omega)), fun _ => ?_⟩
      rw [e245_3, if_neg hge]
      simp +decide (disch := omega) only [e245_9, e245_20, e245_22, h, zpre, ite_self, Nat.reduceAdd, zs1, zs2, zs3, zI_eqb, and_self, not_true_eq_false, if_true, if_false, ite_true, ite_false, not_false_eq_true, zBP, zBZ, zisO, zisA, zlen, decide_true, decide_false, Bool.and_self, Bool.and_true, Bool.true_and, cond_true, cond_false, zBG, zBR, zBU, zBV, zinb_n, zix_n, zlA, zlB, zlM, zlN, zlX, zlI, nI_add, Nat.add_eq_zero_iff, false_and, and_false, and_true, true_and, true_or, or_true, false_or, or_false, zbool_i, zb0, zb1, zshp_0, zcs_eq, zcs_n, zcs_cs, zup_g, zup_n, zg_srock2, zg_stug2, zg_ssun, zg_ssun0, zg_srock, zg_srock0, zg_stug, zg_stug0, zg_sord, zg_sord0, zg_srep, zg_srep0, zg_scla, zg_scla0, zg_scon, zg_scon0, zg_swin, zg_swin0, zg_sleg, zg_sleg0, zg_spro, zg_sstp, zg_swrd, zu_srock2, zu_stug2, zu_ssun, zu_ssun0, zu_srock, zu_srock0, zu_stug, zu_stug0, zu_sord, zu_sord0, zu_srep, zu_srep0, zu_scla, zu_scla0, zu_scon, zu_scon0, zu_swin, zu_swin0, zu_sleg, zu_sleg0, zu_spro, zu_sstp, zu_swrd]
    · refine ⟨fun q => ?_, fun ⟨i, h1, h2, h3⟩ => ?_⟩
      · rw [← i1 (fun i hi => q i (by omega)), e245_3, if_neg hge]
        simp +decide (disch := omega) only [e245_9, e245_20, e245_22, h, zpre, ite_self, Nat.reduceAdd, zs1, zs2, zs3, zI_eqb, and_self, not_true_eq_false, if_true, if_false, ite_true, ite_false, not_false_eq_true, zBP, zBZ, zisO, zisA, zlen, decide_true, decide_false, Bool.and_self, Bool.and_true, Bool.true_and, cond_true, cond_false, zBG, zBR, zBU, zBV, zinb_n, zix_n, zlA, zlB, zlM, zlN, zlX, zlI, nI_add, Nat.add_eq_zero_iff, false_and, and_false, and_true, true_and, true_or, or_true, false_or, or_false, zbool_i, zb0, zb1, zshp_0, zcs_eq, zcs_n, zcs_cs, zup_g, zup_n, zg_srock2, zg_stug2, zg_ssun, zg_ssun0, zg_srock, zg_srock0, zg_stug, zg_stug0, zg_sord, zg_sord0, zg_srep, zg_srep0, zg_scla, zg_scla0, zg_scon, zg_scon0, zg_swin, zg_swin0, zg_sleg, zg_sleg0, zg_spro, zg_sstp, zg_swrd, zu_srock2, zu_stug2, zu_ssun, zu_ssun0, zu_srock, zu_srock0, zu_stug, zu_stug0, zu_sord, zu_sord0, zu_srep, zu_srep0, zu_scla, zu_scla0, zu_scon, zu_scon0, zu_swin, zu_swin0, zu_sleg, zu_sleg0, zu_spro, zu_sstp, zu_swrd]
      · rw [← i2 ⟨i, by (rcases Nat.lt_or_ge j i with q | q; exact q; exact absurd (by rw [show j = i by omega]; exact h3) h), h2, h3⟩, e245_3, if_neg hge]
        simp +decide (disch := omega) only [e245_9, e245_20, e245_22, h, zpre, ite_self, Nat.reduceAdd, zs1, zs2, zs3, zI_eqb, and_self, not_true_eq_false, if_true, if_false, ite_true, ite_false, not_false_eq_true, zBP, zBZ, zisO, zisA, zlen, decide_true, decide_false, Bool.and_self, Bool.and_true, Bool.true_and, cond_true, cond_false, zBG, zBR, zBU, zBV, zinb_n, zix_n, zlA, zlB, zlM, zlN, zlX, zlI, nI_add, Nat.add_eq_zero_iff, false_and, and_false, and_true, true_and, true_or, or_true, false_or, or_false, zbool_i, zb0, zb1, zshp_0, zcs_eq, zcs_n, zcs_cs, zup_g, zup_n, zg_srock2, zg_stug2, zg_ssun, zg_ssun0, zg_srock, zg_srock0, zg_stug, zg_stug0, zg_sord, zg_sord0, zg_srep, zg_srep0, zg_scla, zg_scla0, zg_scon, zg_scon0, zg_swin, zg_swin0, zg_sleg, zg_sleg0, zg_spro, zg_sstp, zg_swrd, zu_srock2, zu_stug2, zu_ssun, zu_ssun0, zu_srock, zu_srock0, zu_stug, zu_stug0, zu_sord, zu_sord0, zu_srep, zu_srep0, zu_scla, zu_scla0, zu_scon, zu_scon0, zu_swin, zu_swin0, zu_sleg, zu_sleg0, zu_spro, zu_sstp, zu_swrd]
theorem T245_28 (d L p0 p2 r2 r3 s4 many k rk dy fu rt nr : Nat) (C : zCt) (wd : Nat → Nat → Nat) (K : zGp) (x3 x4 : Int32) (v5 v6 v7 : Value) (hm : many ≤ 6) (hk : k < 16) (hrk : rk < nr) (hr8 : nr ≤ 8) (hdy : dy ≤ 2000) (hfu : fu ≤ 999) (hrt : rt ≤ 50) (hw2 : wd k 2 ≤ 999) (h12 : C 412 0 many = nI rk) (h13 : C 413 0 many = nI dy) (h14 : C 414 0 many = nI fu) (hW : C 48 k 2 = nI (wd k 2)) (hK : C 42 rk 0 = K rk 0) (h3 : C 40 0 3 = nI rt) : ∃ x7, zR d 245 28 [.ref 201, .int (nI many), .int (nI k), .int x3, .int x4, v5, v6, v7] [] (zZ L, zI C, zPd p0 p2 r2 r3 s4) = zR d 245 146 [.ref 201, .int (nI many), .int (nI k), .int x3, .int (nI (966 + 6 * k)), .int (nI rk), .int (nI (zlv wd k dy)), .int x7] [.int (nI (zfw wd K rt k rk dy fu))] (zZ L, zI C, zPd p0 p2 r2 r3 s4) := by
  have hrk8 : rk < 8 := by omega
  have h82 : ∃ x7, zR d 245 82 [.ref 201, .int (nI many), .int (nI k), .int x3, .int (nI (966 + 6 * k)), .int (nI rk), v6, v7] [.int (nI (zlv wd k dy))] (zZ L, zI C, zPd p0 p2 r2 r3 s4) = zR d 245 146 [.ref 201, .int (nI many), .int (nI k), .int x3, .int (nI (966 + 6 * k)), .int (nI rk), .int (nI (zlv wd k dy)), .int x7] [.int (nI (zfw wd K rt k rk dy fu))] (zZ L, zI C, zPd p0 p2 r2 r3 s4) := by
    have hlv : zlv wd k dy ≤ 2000 ∧ dy ≤ zlv wd k dy := by unfold zlv; omega
    have hsub : nI (zlv wd k dy) - nI dy = nI (zlv wd k dy - dy) := nI_sub hlv.2
    have hmul : rt * (zlv wd k dy - dy) ≤ 50 * 2000 := Nat.mul_le_mul hrt (by omega)
    by_cases h : K rk 0 = 1
    · by_cases hle : fu + rt * (zlv wd k dy - dy) ≤ 999
      · refine ⟨nI (fu + rt * (zlv wd k dy - dy)), ?_⟩
        have g : nI (fu + rt * (zlv wd k dy - dy)) ≤ 999 := nI_le (b := 999) hle (by decide)
        have hz : zfw wd K rt k rk dy fu = fu + rt * (zlv wd k dy - dy) := by
          unfold zfw
          rw [if_pos h, Nat.mul_comm]; omega
        rw [hz]
        simp +decide (disch := omega) only [e245_82, e245_107, e245_126, e245_127, e245_138, e245_144, h12, h13, h14, hK, h3, h, hsub, nI_mul, g, Int32.add_zero, zpre, ite_self, Nat.reduceAdd, zs1, zs2, zs3, zI_eqb, and_self, not_true_eq_false, if_true, if_false, ite_true, ite_false, not_false_eq_true, zBP, zBZ, zisO, zisA, zlen, decide_true, decide_false, Bool.and_self, Bool.and_true, Bool.true_and, cond_true, cond_false, zBG, zBR, zBU, zBV, zinb_n, zix_n, zlA, zlB, zlM, zlN, zlX, zlI, nI_add, Nat.add_eq_zero_iff, false_and, and_false, and_true, true_and, true_or, or_true, false_or, or_false, zbool_i, zb0, zb1, zshp_0, zcs_eq, zcs_n, zcs_cs, zup_g, zup_n, zg_srock2, zg_stug2, zg_ssun, zg_ssun0, zg_srock, zg_srock0, zg_stug, zg_stug0, zg_sord, zg_sord0, zg_srep, zg_srep0, zg_scla, zg_scla0, zg_scon, zg_scon0, zg_swin, zg_swin0, zg_sleg, zg_sleg0, zg_spro, zg_sstp, zg_swrd, zu_srock2, zu_stug2, zu_ssun, zu_ssun0, zu_srock, zu_srock0, zu_stug, zu_stug0, zu_sord, zu_sord0, zu_srep, zu_srep0, zu_scla, zu_scla0, zu_scon, zu_scon0, zu_swin, zu_swin0, zu_sleg, zu_sleg0, zu_spro, zu_sstp, zu_swrd]
      · refine ⟨nI (fu + rt * (zlv wd k dy - dy)), ?_⟩
        have g : ¬ nI (fu + rt * (zlv wd k dy - dy)) ≤ 999 := nI_ge (a := 999) (by omega) (by omega)
        have hz : zfw wd K rt k rk dy fu = 999 := by
          unfold zfw
          rw [if_pos h, Nat.mul_comm]; omega
        have h999 : nI 999 = 999 := rfl
        rw [hz, h999]
        simp +decide (disch := omega) only [e245_82, e245_107, e245_126, e245_127, e245_138, e245_144, h12, h13, h14, hK, h3, h, hsub, nI_mul, g, Int32.add_zero, zpre, ite_self, Nat.reduceAdd, zs1, zs2, zs3, zI_eqb, and_self, not_true_eq_false, if_true, if_false, ite_true, ite_false, not_false_eq_true, zBP, zBZ, zisO, zisA, zlen, decide_true, decide_false, Bool.and_self, Bool.and_true, Bool.true_and, cond_true, cond_false, zBG, zBR, zBU, zBV, zinb_n, zix_n, zlA, zlB, zlM, zlN, zlX, zlI, nI_add, Nat.add_eq_zero_iff, false_and, and_false, and_true, true_and, true_or, or_true, false_or, or_false, zbool_i, zb0, zb1, zshp_0, zcs_eq, zcs_n, zcs_cs, zup_g, zup_n, zg_srock2, zg_stug2, zg_ssun, zg_ssun0, zg_srock, zg_srock0, zg_stug, zg_stug0, zg_sord, zg_sord0, zg_srep, zg_srep0, zg_scla, zg_scla0, zg_scon, zg_scon0, zg_swin, zg_swin0, zg_sleg, zg_sleg0, zg_spro, zg_sstp, zg_swrd, zu_srock2, zu_stug2, zu_ssun, zu_ssun0, zu_srock, zu_srock0, zu_stug, zu_stug0, zu_sord, zu_sord0, zu_srep, zu_srep0, zu_scla, zu_scla0, zu_scon, zu_scon0, zu_swin, zu_swin0, zu_sleg, zu_sleg0, zu_spro, zu_sstp, zu_swrd]
    · refine ⟨nI fu, ?_⟩
      have g : nI fu ≤ 999 := nI_le (b := 999) hfu (by decide)
      have hz : zfw wd K rt k rk dy fu = fu := by
        unfold zfw
        rw [if_neg h]
      rw [hz]
      simp +decide (disch := omega) only [e245_82, e245_107, e245_126, e245_127, e245_138, e245_144, h12, h13, h14, hK, h3, h, hsub, nI_mul, g, Int32.add_zero, zpre, ite_self, Nat.reduceAdd, zs1, zs2, zs3, zI_eqb, and_self, not_true_eq_false, if_true, if_false, ite_true, ite_false, not_false_eq_true, zBP, zBZ, zisO, zisA, zlen, decide_true, decide_false, Bool.and_self, Bool.and_true, Bool.true_and, cond_true, cond_false, zBG, zBR, zBU, zBV, zinb_n, zix_n, zlA, zlB, zlM, zlN, zlX, zlI, nI_add, Nat.add_eq_zero_iff, false_and, and_false, and_true, true_and, true_or, or_true, false_or, or_false, zbool_i, zb0, zb1, zshp_0, zcs_eq, zcs_n, zcs_cs, zup_g, zup_n, zg_srock2, zg_stug2, zg_ssun, zg_ssun0, zg_srock, zg_srock0, zg_stug, zg_stug0, zg_sord, zg_sord0, zg_srep, zg_srep0, zg_scla, zg_scla0, zg_scon, zg_scon0, zg_swin, zg_swin0, zg_sleg, zg_sleg0, zg_spro, zg_sstp, zg_swrd, zu_srock2, zu_stug2, zu_ssun, zu_ssun0, zu_srock, zu_srock0, zu_stug, zu_stug0, zu_sord, zu_sord0, zu_srep, zu_srep0, zu_scla, zu_scla0, zu_scon, zu_scon0, zu_swin, zu_swin0, zu_sleg, zu_sleg0, zu_spro, zu_sstp, zu_swrd]
  obtain ⟨x7, h82⟩ := h82
  refine ⟨x7, ?_⟩
  rw [← h82]
  by_cases hc : dy ≤ wd k 2
  · have g : nI dy ≤ nI (wd k 2) := nI_le hc (by omega)
    have hz : zlv wd k dy = wd k 2 := by unfold zlv; omega
    rw [hz, e245_28]
    simp +decide (disch := omega) only [e245_64, e245_73, h12, h13, hW, g, zpre, ite_self, Nat.reduceAdd, zs1, zs2, zs3, zI_eqb, and_self, not_true_eq_false, if_true, if_false, ite_true, ite_false, not_false_eq_true, zBP, zBZ, zisO, zisA, zlen, decide_true, decide_false, Bool.and_self, Bool.and_true, Bool.true_and, cond_true, cond_false, zBG, zBR, zBU, zBV, zinb_n, zix_n, zlA, zlB, zlM, zlN, zlX, zlI, nI_add, Nat.add_eq_zero_iff, false_and, and_false, and_true, true_and, true_or, or_true, false_or, or_false, zbool_i, zb0, zb1, zshp_0, zcs_eq, zcs_n, zcs_cs, zup_g, zup_n, zg_srock2, zg_stug2, zg_ssun, zg_ssun0, zg_srock, zg_srock0, zg_stug, zg_stug0, zg_sord, zg_sord0, zg_srep, zg_srep0, zg_scla, zg_scla0, zg_scon, zg_scon0, zg_swin, zg_swin0, zg_sleg, zg_sleg0, zg_spro, zg_sstp, zg_swrd, zu_srock2, zu_stug2, zu_ssun, zu_ssun0, zu_srock, zu_srock0, zu_stug, zu_stug0, zu_sord, zu_sord0, zu_srep, zu_srep0, zu_scla, zu_scla0, zu_scon, zu_scon0, zu_swin, zu_swin0, zu_sleg, zu_sleg0, zu_spro, zu_sstp, zu_swrd]
  · have g : ¬ nI dy ≤ nI (wd k 2) := nI_ge (by omega) (by omega)
    have hz : zlv wd k dy = dy := by unfold zlv; omega
    rw [hz, e245_28]
    simp +decide (disch := omega) only [e245_64, e245_73, h12, h13, hW, g, zpre, ite_self, Nat.reduceAdd, zs1, zs2, zs3, zI_eqb, and_self, not_true_eq_false, if_true, if_false, ite_true, ite_false, not_false_eq_true, zBP, zBZ, zisO, zisA, zlen, decide_true, decide_false, Bool.and_self, Bool.and_true, Bool.true_and, cond_true, cond_false, zBG, zBR, zBU, zBV, zinb_n, zix_n, zlA, zlB, zlM, zlN, zlX, zlI, nI_add, Nat.add_eq_zero_iff, false_and, and_false, and_true, true_and, true_or, or_true, false_or, or_false, zbool_i, zb0, zb1, zshp_0, zcs_eq, zcs_n, zcs_cs, zup_g, zup_n, zg_srock2, zg_stug2, zg_ssun, zg_ssun0, zg_srock, zg_srock0, zg_stug, zg_stug0, zg_sord, zg_sord0, zg_srep, zg_srep0, zg_scla, zg_scla0, zg_scon, zg_scon0, zg_swin, zg_swin0, zg_sleg, zg_sleg0, zg_spro, zg_sstp, zg_swrd, zu_srock2, zu_stug2, zu_ssun, zu_ssun0, zu_srock, zu_srock0, zu_stug, zu_stug0, zu_sord, zu_sord0, zu_srep, zu_srep0, zu_scla, zu_scla0, zu_scon, zu_scon0, zu_swin, zu_swin0, zu_sleg, zu_sleg0, zu_spro, zu_sstp, zu_swrd]
/-- window k is taken -/
def ztkn (C : zCt) (many k l t e f : Nat) : zCt := zcs (zcs (zcs (zcs (zcs C 415 (zup (C 415) 0 many (nI k))) 416 (zup (C 416) 0 many (nI l))) 412 (zup (C 412) 0 (many + 1) (nI t))) 413 (zup (C 413) 0 (many + 1) (nI e))) 414 (zup (C 414) 0 (many + 1) (nI f))
theorem T245 (d L p0 p2 r2 r3 s4 many k rk dy fu rt nr e : Nat) (C : zCt) (wd : Nat → Nat → Nat) (K pa : zGp) (hm : many < 6) (hk : k < 16) (hrk : rk < nr) (hr8 : nr ≤ 8) (hdy : dy ≤ 2000) (hfu : fu ≤ 999) (hrt : rt ≤ 50) (he : e ≤ 2000) (hw : wd k 0 < nr ∧ wd k 1 < nr ∧ wd k 2 ≤ 999 ∧ wd k 3 ≤ 999 ∧ wd k 4 ≤ 999 ∧ wd k 5 ≤ 200) (h12 : C 412 0 many = nI rk) (h13 : C 413 0 many = nI dy) (h14 : C 414 0 many = nI fu) (hW : ∀ f, f < 6 → C 48 k f = nI (wd k f)) (hK : C 42 rk 0 = K rk 0) (h3 : C 40 0 3 = nI rt) (hP : ∀ j, j < many → C 415 0 j = pa j 0) :
    (¬ zok wd K rt e k many pa rk dy fu → zR d 245 0 [.ref 201, .int (nI many), .int (nI k), .int (nI e), zmk, zmk, zmk, zmk] [] (zZ L, zI C, zPd p0 p2 r2 r3 s4) = some (some (.int 0), (zZ L, zI C, zPd p0 p2 r2 r3 s4))) ∧
    (zok wd K rt e k many pa rk dy fu → zR d 245 0 [.ref 201, .int (nI many), .int (nI k), .int (nI e), zmk, zmk, zmk, zmk] [] (zZ L, zI C, zPd p0 p2 r2 r3 s4) = some (some (.int 1), (zZ L, zI (ztkn C many k (zlv wd k dy) (wd k 1) (zlv wd k dy + wd k 5) (zfw wd K rt k rk dy fu - wd k 4)), zPd p0 p2 r2 r3 s4))) := by
  obtain ⟨x0, x1, x2, x3, x4, x5⟩ := hw
  have w0 := hW 0 (by decide)
  have w1 := hW 1 (by decide)
  have w3 := hW 3 (by decide)
  have w4 := hW 4 (by decide)
  have w5 := hW 5 (by decide)
  obtain ⟨t1, t2⟩ := T245_3 d L p0 p2 r2 r3 s4 many k C (nI e) (by omega) many 0 zmk zmk zmk (by omega)
  obtain ⟨x7, t3⟩ := T245_28 d L p0 p2 r2 r3 s4 many k rk dy fu rt nr C wd K (nI e) (nI many) zmk zmk zmk (by omega) hk hrk hr8 hdy hfu hrt x2 h12 h13 h14 (hW 2 (by decide)) hK h3
  rw [zn0] at t1 t2
  have hlv : zlv wd k dy ≤ 2000 ∧ dy ≤ zlv wd k dy := by unfold zlv; omega
  have hfw9 : zfw wd K rt k rk dy fu ≤ 999 := by unfold zfw; split <;> omega
  have hrk8 : rk < 8 := by omega
  obtain ⟨LV, hLV⟩ : ∃ LV, LV = zlv wd k dy := ⟨_, rfl⟩
  obtain ⟨FW, hFW⟩ : ∃ FW, FW = zfw wd K rt k rk dy fu := ⟨_, rfl⟩
  unfold zok
  rw [← hLV] at hlv t3 ⊢
  rw [← hFW] at hfw9 t3 ⊢
  by_cases f2 : ∀ j, j < many → pa j 0 ≠ nI k
  case neg =>
    have hex : ∃ i, 0 ≤ i ∧ i < many ∧ C 415 0 i = nI k := by
      apply Classical.byContradiction
      intro hq
      exact f2 (fun j hj e => hq ⟨j, Nat.zero_le _, hj, by rw [hP j hj]; exact e⟩)
    exact ⟨fun _ => by rw [e245_0]; exact t2 hex, fun q => absurd q.2.1 f2⟩
  have t1 := t1 (fun i _ hi => by rw [hP i hi]; exact f2 i hi)
  have t4 : ∀ Q, zR d 245 146 [.ref 201, .int (nI many), .int (nI k), .int (nI e), .int (nI (966 + 6 * k)), .int (nI rk), .int (nI LV), .int x7] [.int (nI FW)] (zZ L, zI C, zPd p0 p2 r2 r3 s4) = Q → zR d 245 0 [.ref 201, .int (nI many), .int (nI k), .int (nI e), zmk, zmk, zmk, zmk] [] (zZ L, zI C, zPd p0 p2 r2 r3 s4) = Q := fun Q h => by rw [e245_0, t1, t3, h]
  by_cases f1 : wd k 0 = rk
  case neg =>
    have g1 : ¬ nI (wd k 0) = nI rk := fun h => f1 ((nI_eq (by omega) (by omega)).mp h)
    refine ⟨fun _ => t4 _ ?_, fun q => absurd q.1 f1⟩
    rw [e245_146]
    simp +decide (disch := omega) only [e245_160, e245_174, e245_188, e245_204, e245_206, w0, g1, zpre, ite_self, Nat.reduceAdd, zs1, zs2, zs3, zI_eqb, and_self, not_true_eq_false, if_true, if_false, ite_true, ite_false, not_false_eq_true, zBP, zBZ, zisO, zisA, zlen, decide_true, decide_false, Bool.and_self, Bool.and_true, Bool.true_and, cond_true, cond_false, zBG, zBR, zBU, zBV, zinb_n, zix_n, zlA, zlB, zlM, zlN, zlX, zlI, nI_add, Nat.add_eq_zero_iff, false_and, and_false, and_true, true_and, true_or, or_true, false_or, or_false, zbool_i, zb0, zb1, zshp_0, zcs_eq, zcs_n, zcs_cs, zup_g, zup_n, zg_srock2, zg_stug2, zg_ssun, zg_ssun0, zg_srock, zg_srock0, zg_stug, zg_stug0, zg_sord, zg_sord0, zg_srep, zg_srep0, zg_scla, zg_scla0, zg_scon, zg_scon0, zg_swin, zg_swin0, zg_sleg, zg_sleg0, zg_spro, zg_sstp, zg_swrd, zu_srock2, zu_stug2, zu_ssun, zu_ssun0, zu_srock, zu_srock0, zu_stug, zu_stug0, zu_sord, zu_sord0, zu_srep, zu_srep0, zu_scla, zu_scla0, zu_scon, zu_scon0, zu_swin, zu_swin0, zu_sleg, zu_sleg0, zu_spro, zu_sstp, zu_swrd]
  have g1 : (nI (wd k 0) = nI rk) = True := by rw [f1]; exact eq_true rfl
  by_cases f3 : LV ≤ wd k 3
  case neg =>
    have g3 : nI (wd k 3) < nI LV := nI_lt (by omega) (by omega)
    refine ⟨fun _ => t4 _ ?_, fun q => absurd q.2.2.1 f3⟩
    rw [e245_146]
    simp +decide (disch := omega) only [e245_160, e245_174, e245_188, e245_204, e245_206, w0, w3, g1, g3, zpre, ite_self, Nat.reduceAdd, zs1, zs2, zs3, zI_eqb, and_self, not_true_eq_false, if_true, if_false, ite_true, ite_false, not_false_eq_true, zBP, zBZ, zisO, zisA, zlen, decide_true, decide_false, Bool.and_self, Bool.and_true, Bool.true_and, cond_true, cond_false, zBG, zBR, zBU, zBV, zinb_n, zix_n, zlA, zlB, zlM, zlN, zlX, zlI, nI_add, Nat.add_eq_zero_iff, false_and, and_false, and_true, true_and, true_or, or_true, false_or, or_false, zbool_i, zb0, zb1, zshp_0, zcs_eq, zcs_n, zcs_cs, zup_g, zup_n, zg_srock2, zg_stug2, zg_ssun, zg_ssun0, zg_srock, zg_srock0, zg_stug, zg_stug0, zg_sord, zg_sord0, zg_srep, zg_srep0, zg_scla, zg_scla0, zg_scon, zg_scon0, zg_swin, zg_swin0, zg_sleg, zg_sleg0, zg_spro, zg_sstp, zg_swrd, zu_srock2, zu_stug2, zu_ssun, zu_ssun0, zu_srock, zu_srock0, zu_stug, zu_stug0, zu_sord, zu_sord0, zu_srep, zu_srep0, zu_scla, zu_scla0, zu_scon, zu_scon0, zu_swin, zu_swin0, zu_sleg, zu_sleg0, zu_spro, zu_sstp, zu_swrd]
  have g3 : ¬ nI (wd k 3) < nI LV := nI_nlt f3 (by omega)
  by_cases f5 : wd k 4 ≤ FW
  case neg =>
    have g5 : nI FW < nI (wd k 4) := nI_lt (by omega) (by omega)
    refine ⟨fun _ => t4 _ ?_, fun q => absurd q.2.2.2.2 f5⟩
    rw [e245_146]
    simp +decide (disch := omega) only [e245_160, e245_174, e245_188, e245_204, e245_206, w0, w3, w4, g1, g3, g5, zpre, ite_self, Nat.reduceAdd, zs1, zs2, zs3, zI_eqb, and_self, not_true_eq_false, if_true, if_false, ite_true, ite_false, not_false_eq_true, zBP, zBZ, zisO, zisA, zlen, decide_true, decide_false, Bool.and_self, Bool.and_true, Bool.true_and, cond_true, cond_false, zBG, zBR, zBU, zBV, zinb_n, zix_n, zlA, zlB, zlM, zlN, zlX, zlI, nI_add, Nat.add_eq_zero_iff, false_and, and_false, and_true, true_and, true_or, or_true, false_or, or_false, zbool_i, zb0, zb1, zshp_0, zcs_eq, zcs_n, zcs_cs, zup_g, zup_n, zg_srock2, zg_stug2, zg_ssun, zg_ssun0, zg_srock, zg_srock0, zg_stug, zg_stug0, zg_sord, zg_sord0, zg_srep, zg_srep0, zg_scla, zg_scla0, zg_scon, zg_scon0, zg_swin, zg_swin0, zg_sleg, zg_sleg0, zg_spro, zg_sstp, zg_swrd, zu_srock2, zu_stug2, zu_ssun, zu_ssun0, zu_srock, zu_srock0, zu_stug, zu_stug0, zu_sord, zu_sord0, zu_srep, zu_srep0, zu_scla, zu_scla0, zu_scon, zu_scon0, zu_swin, zu_swin0, zu_sleg, zu_sleg0, zu_spro, zu_sstp, zu_swrd]
  have g5 : ¬ nI FW < nI (wd k 4) := nI_nlt f5 (by omega)
  by_cases f4 : LV + wd k 5 ≤ e
  case neg =>
    have g4 : ¬ nI (LV + wd k 5) ≤ nI e := nI_ge (by omega) (by omega)
    refine ⟨fun _ => t4 _ ?_, fun q => absurd q.2.2.2.1 f4⟩
    rw [e245_146]
    simp +decide (disch := omega) only [e245_160, e245_174, e245_188, e245_204, e245_206, w0, w3, w4, w5, g1, g3, g5, g4, zpre, ite_self, Nat.reduceAdd, zs1, zs2, zs3, zI_eqb, and_self, not_true_eq_false, if_true, if_false, ite_true, ite_false, not_false_eq_true, zBP, zBZ, zisO, zisA, zlen, decide_true, decide_false, Bool.and_self, Bool.and_true, Bool.true_and, cond_true, cond_false, zBG, zBR, zBU, zBV, zinb_n, zix_n, zlA, zlB, zlM, zlN, zlX, zlI, nI_add, Nat.add_eq_zero_iff, false_and, and_false, and_true, true_and, true_or, or_true, false_or, or_false, zbool_i, zb0, zb1, zshp_0, zcs_eq, zcs_n, zcs_cs, zup_g, zup_n, zg_srock2, zg_stug2, zg_ssun, zg_ssun0, zg_srock, zg_srock0, zg_stug, zg_stug0, zg_sord, zg_sord0, zg_srep, zg_srep0, zg_scla, zg_scla0, zg_scon, zg_scon0, zg_swin, zg_swin0, zg_sleg, zg_sleg0, zg_spro, zg_sstp, zg_swrd, zu_srock2, zu_stug2, zu_ssun, zu_ssun0, zu_srock, zu_srock0, zu_stug, zu_stug0, zu_sord, zu_sord0, zu_srep, zu_srep0, zu_scla, zu_scla0, zu_scon, zu_scon0, zu_swin, zu_swin0, zu_sleg, zu_sleg0, zu_spro, zu_sstp, zu_swrd]
  have g4 : nI (LV + wd k 5) ≤ nI e := nI_le f4 (by omega)
  have hsub2 : nI FW - nI (wd k 4) = nI (FW - wd k 4) := nI_sub f5
  refine ⟨fun q => absurd ⟨f1, f2, f3, f4, f5⟩ q, fun _ => t4 _ ?_⟩
  unfold ztkn
  rw [e245_146]
  simp +decide (disch := omega) only [e245_160, e245_174, e245_188, e245_204, e245_206, w0, w1, w3, w4, w5, g1, g3, g5, g4, hsub2, zpre, ite_self, Nat.reduceAdd, zs1, zs2, zs3, zI_eqb, and_self, not_true_eq_false, if_true, if_false, ite_true, ite_false, not_false_eq_true, zBP, zBZ, zisO, zisA, zlen, decide_true, decide_false, Bool.and_self, Bool.and_true, Bool.true_and, cond_true, cond_false, zBG, zBR, zBU, zBV, zinb_n, zix_n, zlA, zlB, zlM, zlN, zlX, zlI, nI_add, Nat.add_eq_zero_iff, false_and, and_false, and_true, true_and, true_or, or_true, false_or, or_false, zbool_i, zb0, zb1, zshp_0, zcs_eq, zcs_n, zcs_cs, zup_g, zup_n, zg_srock2, zg_stug2, zg_ssun, zg_ssun0, zg_srock, zg_srock0, zg_stug, zg_stug0, zg_sord, zg_sord0, zg_srep, zg_srep0, zg_scla, zg_scla0, zg_scon, zg_scon0, zg_swin, zg_swin0, zg_sleg, zg_sleg0, zg_spro, zg_sstp, zg_swrd, zu_srock2, zu_stug2, zu_ssun, zu_ssun0, zu_srock, zu_srock0, zu_stug, zu_stug0, zu_sord, zu_sord0, zu_srep, zu_srep0, zu_scla, zu_scla0, zu_scon, zu_scon0, zu_swin, zu_swin0, zu_sleg, zu_sleg0, zu_spro, zu_sstp, zu_swrd]

