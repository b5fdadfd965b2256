/-! THE LAW: one round of its loop for each op, printed by wip/gen/pub92.py -/
theorem zLW_0 {d y pc L a b c e f a' b' c' e' f' : Nat} {lv : List Value} {v : Option Value} {C C1 : zCt} (h : zR d y pc lv [] (zZ L, zI C, zPd a b c e f) = some (v, (zZ L, zI C1, zPd a' b' c' e' f'))) : ∀ k, C1 100 0 k = C 100 0 k := by
  obtain ⟨n, hn⟩ := zR_iff.mp h
  have := (zrun_0 _ _ _ _ _ _ _ _ _ rfl hn).1
  intro k
  have := congrFun this k
  simp only [zBG] at this
  exact this

theorem LW_0 (d L i : Nat) (C : zCt) (p0 p2 r2 r3 s4 : Nat) (hi : i + 7 ≤ L) (hL : L < 2147483648) (hR : zRep C) : ∃ (C' : zCt) (q : Nat × Nat × Nat × Nat × Nat), zR (d + 121) 255 200 [.ref 0, .ref 1, .ref 201, .int (nI i)] [] (zZ L, zI C, zPd p0 p2 r2 r3 s4) = zR (d + 121) 255 1546 [.ref 0, .ref 1, .ref 201, .int (nI i)] [] (zZ L, zI C', zPd q.1 q.2.1 q.2.2.1 q.2.2.2.1 q.2.2.2.2) ∧ zRep C' := by
  obtain ⟨v, C1, q1, h1, C2, h2, hR2, _⟩ := pr_sun (d + 20) L C hR (C 100 0 (i + 1)) (C 100 0 (i + 2)) (C 100 0 (i + 3)) (p0, p2, r2, r3, s4)
  obtain ⟨b0, b2, b3, b4, b5⟩ := q1
  have h1 : zR (d + 120) 105 0 [.ref 1, .int (C 100 0 (i + 1)), .int (C 100 0 (i + 2)), .int (C 100 0 (i + 3))] [] (zZ L, zI C, zPd p0 p2 r2 r3 s4) = some (some (.int v), (zZ L, zI C1, zPd b0 b2 b3 b4 b5)) := h1
  have h2 : zR (d + 120) 152 0 [.ref 201, .int (C 100 0 (i + 1)), .int (C 100 0 (i + 2)), .int (C 100 0 (i + 3)), zmk] [] (zZ L, zI C1, zPd b0 b2 b3 b4 b5) = some (some (.int v), (zZ L, zI C2, zPd b0 b2 b3 b4 b5)) := h2
  have e0 : ∀ k, C1 100 0 k = C 100 0 k := zLW_0 h1
  refine ⟨C2, (b0, b2, b3, b4, b5), ?_, hR2⟩
  have a1 : nI i + 1 = nI (i + 1) := nI_add i 1
  have a2 : nI i + 2 = nI (i + 2) := nI_add i 2
  have a3 : nI i + 3 = nI (i + 3) := nI_add i 3
  simp +decide (disch := omega) only [e255_200, e255_219, e255_238, a1, a2, a3, e0, h1, h2, List.cons_append, List.nil_append, zpre, ite_self, Nat.reduceAdd, zs1, zs2, zs3, zI_eqb, and_self, not_true_eq_false, if_true, if_false, ite_true, ite_false, not_false_eq_true, zBP, zBZ, zisO, zisA, zlen, decide_true, decide_false, Bool.and_self, Bool.and_true, Bool.true_and, cond_true, cond_false, zBG, zBR, zBU, zBV, zinb_n, zix_n, zlA, zlB, zlM, zlN, zlX, zlI, nI_add, Nat.add_eq_zero_iff, false_and, and_false, and_true, true_and, true_or, or_true, false_or, or_false, zbool_i, zb0, zb1, zshp_0, zcs_eq, zcs_n, zcs_cs, zup_g, zup_n, zg_srock2, zg_stug2, zg_ssun, zg_ssun0, zg_srock, zg_srock0, zg_stug, zg_stug0, zg_sord, zg_sord0, zg_srep, zg_srep0, zg_scla, zg_scla0, zg_scon, zg_scon0, zg_swin, zg_swin0, zg_sleg, zg_sleg0, zg_spro, zg_sstp, zg_swrd, zu_srock2, zu_stug2, zu_ssun, zu_ssun0, zu_srock, zu_srock0, zu_stug, zu_stug0, zu_sord, zu_sord0, zu_srep, zu_srep0, zu_scla, zu_scla0, zu_scon, zu_scon0, zu_swin, zu_swin0, zu_sleg, zu_sleg0, zu_spro, zu_sstp, zu_swrd]

theorem LW_1 (d L i : Nat) (C : zCt) (p0 p2 r2 r3 s4 : Nat) (hi : i + 7 ≤ L) (hL : L < 2147483648) (hR : zRep C) : ∃ (C' : zCt) (q : Nat × Nat × Nat × Nat × Nat), zR (d + 121) 255 243 [.ref 0, .ref 1, .ref 201, .int (nI i)] [] (zZ L, zI C, zPd p0 p2 r2 r3 s4) = zR (d + 121) 255 1546 [.ref 0, .ref 1, .ref 201, .int (nI i)] [] (zZ L, zI C', zPd q.1 q.2.1 q.2.2.1 q.2.2.2.1 q.2.2.2.2) ∧ zRep C' := by
  obtain ⟨v, C1, q1, h1, C2, h2, hR2, _⟩ := pr_rock (d + 20) L C hR (C 100 0 (i + 1)) (C 100 0 (i + 2)) (C 100 0 (i + 3)) (C 100 0 (i + 4)) (C 100 0 (i + 5)) (p0, p2, r2, r3, s4)
  obtain ⟨b0, b2, b3, b4, b5⟩ := q1
  have h1 : zR (d + 120) 108 0 [.ref 1, .int (C 100 0 (i + 1)), .int (C 100 0 (i + 2)), .int (C 100 0 (i + 3)), .int (C 100 0 (i + 4)), .int (C 100 0 (i + 5)), zmk] [] (zZ L, zI C, zPd p0 p2 r2 r3 s4) = some (some (.int v), (zZ L, zI C1, zPd b0 b2 b3 b4 b5)) := h1
  have h2 : zR (d + 120) 155 0 [.ref 201, .int (C 100 0 (i + 1)), .int (C 100 0 (i + 2)), .int (C 100 0 (i + 3)), .int (C 100 0 (i + 4)), .int (C 100 0 (i + 5)), zmk, zmk] [] (zZ L, zI C1, zPd b0 b2 b3 b4 b5) = some (some (.int v), (zZ L, zI C2, zPd b0 b2 b3 b4 b5)) := h2
  have e0 : ∀ k, C1 100 0 k = C 100 0 k := zLW_0 h1
  refine ⟨C2, (b0, b2, b3, b4, b5), ?_, hR2⟩
  have a1 : nI i + 1 = nI (i + 1) := nI_add i 1
  have a2 : nI i + 2 = nI (i + 2) := nI_add i 2
  have a3 : nI i + 3 = nI (i + 3) := nI_add i 3
  have a4 : nI i + 4 = nI (i + 4) := nI_add i 4
  have a5 : nI i + 5 = nI (i + 5) := nI_add i 5
  simp +decide (disch := omega) only [e255_243, e255_272, e255_301, a1, a2, a3, a4, a5, e0, h1, h2, List.cons_append, List.nil_append, zpre, ite_self, Nat.reduceAdd, zs1, zs2, zs3, zI_eqb, and_self, not_true_eq_false, if_true, if_false, ite_true, ite_false, not_false_eq_true, zBP, zBZ, zisO, zisA, zlen, decide_true, decide_false, Bool.and_self, Bool.and_true, Bool.true_and, cond_true, cond_false, zBG, zBR, zBU, zBV, zinb_n, zix_n, zlA, zlB, zlM, zlN, zlX, zlI, nI_add, Nat.add_eq_zero_iff, false_and, and_false, and_true, true_and, true_or, or_true, false_or, or_false, zbool_i, zb0, zb1, zshp_0, zcs_eq, zcs_n, zcs_cs, zup_g, zup_n, zg_srock2, zg_stug2, zg_ssun, zg_ssun0, zg_srock, zg_srock0, zg_stug, zg_stug0, zg_sord, zg_sord0, zg_srep, zg_srep0, zg_scla, zg_scla0, zg_scon, zg_scon0, zg_swin, zg_swin0, zg_sleg, zg_sleg0, zg_spro, zg_sstp, zg_swrd, zu_srock2, zu_stug2, zu_ssun, zu_ssun0, zu_srock, zu_srock0, zu_stug, zu_stug0, zu_sord, zu_sord0, zu_srep, zu_srep0, zu_scla, zu_scla0, zu_scon, zu_scon0, zu_swin, zu_swin0, zu_sleg, zu_sleg0, zu_spro, zu_sstp, zu_swrd]

theorem LW_2 (d L i : Nat) (C : zCt) (p0 p2 r2 r3 s4 : Nat) (hi : i + 7 ≤ L) (hL : L < 2147483648) (hR : zRep C) : ∃ (C' : zCt) (q : Nat × Nat × Nat × Nat × Nat), zR (d + 121) 255 306 [.ref 0, .ref 1, .ref 201, .int (nI i)] [] (zZ L, zI C, zPd p0 p2 r2 r3 s4) = zR (d + 121) 255 1546 [.ref 0, .ref 1, .ref 201, .int (nI i)] [] (zZ L, zI C', zPd q.1 q.2.1 q.2.2.1 q.2.2.2.1 q.2.2.2.2) ∧ zRep C' := by
  obtain ⟨v, C1, q1, h1, C2, h2, hR2, _⟩ := pr_speed (d + 20) L C hR (C 100 0 (i + 1)) (C 100 0 (i + 2)) (C 100 0 (i + 3)) (p0, p2, r2, r3, s4)
  obtain ⟨b0, b2, b3, b4, b5⟩ := q1
  have h1 : zR (d + 120) 109 0 [.ref 1, .int (C 100 0 (i + 1)), .int (C 100 0 (i + 2)), .int (C 100 0 (i + 3)), zmk] [] (zZ L, zI C, zPd p0 p2 r2 r3 s4) = some (some (.int v), (zZ L, zI C1, zPd b0 b2 b3 b4 b5)) := h1
  have h2 : zR (d + 120) 156 0 [.ref 201, .int (C 100 0 (i + 1)), .int (C 100 0 (i + 2)), .int (C 100 0 (i + 3))] [] (zZ L, zI C1, zPd b0 b2 b3 b4 b5) = some (some (.int v), (zZ L, zI C2, zPd b0 b2 b3 b4 b5)) := h2
  have e0 : ∀ k, C1 100 0 k = C 100 0 k := zLW_0 h1
  refine ⟨C2, (b0, b2, b3, b4, b5), ?_, hR2⟩
  have a1 : nI i + 1 = nI (i + 1) := nI_add i 1
  have a2 : nI i + 2 = nI (i + 2) := nI_add i 2
  have a3 : nI i + 3 = nI (i + 3) := nI_add i 3
  simp +decide (disch := omega) only [e255_306, e255_325, e255_344, a1, a2, a3, e0, h1, h2, List.cons_append, List.nil_append, zpre, ite_self, Nat.reduceAdd, zs1, zs2, zs3, zI_eqb, and_self, not_true_eq_false, if_true, if_false, ite_true, ite_false, not_false_eq_true, zBP, zBZ, zisO, zisA, zlen, decide_true, decide_false, Bool.and_self, Bool.and_true, Bool.true_and, cond_true, cond_false, zBG, zBR, zBU, zBV, zinb_n, zix_n, zlA, zlB, zlM, zlN, zlX, zlI, nI_add, Nat.add_eq_zero_iff, false_and, and_false, and_true, true_and, true_or, or_true, false_or, or_false, zbool_i, zb0, zb1, zshp_0, zcs_eq, zcs_n, zcs_cs, zup_g, zup_n, zg_srock2, zg_stug2, zg_ssun, zg_ssun0, zg_srock, zg_srock0, zg_stug, zg_stug0, zg_sord, zg_sord0, zg_srep, zg_srep0, zg_scla, zg_scla0, zg_scon, zg_scon0, zg_swin, zg_swin0, zg_sleg, zg_sleg0, zg_spro, zg_sstp, zg_swrd, zu_srock2, zu_stug2, zu_ssun, zu_ssun0, zu_srock, zu_srock0, zu_stug, zu_stug0, zu_sord, zu_sord0, zu_srep, zu_srep0, zu_scla, zu_scla0, zu_scon, zu_scon0, zu_swin, zu_swin0, zu_sleg, zu_sleg0, zu_spro, zu_sstp, zu_swrd]

theorem LW_3 (d L i : Nat) (C : zCt) (p0 p2 r2 r3 s4 : Nat) (hi : i + 7 ≤ L) (hL : L < 2147483648) (hR : zRep C) : ∃ (C' : zCt) (q : Nat × Nat × Nat × Nat × Nat), zR (d + 121) 255 349 [.ref 0, .ref 1, .ref 201, .int (nI i)] [] (zZ L, zI C, zPd p0 p2 r2 r3 s4) = zR (d + 121) 255 1546 [.ref 0, .ref 1, .ref 201, .int (nI i)] [] (zZ L, zI C', zPd q.1 q.2.1 q.2.2.1 q.2.2.2.1 q.2.2.2.2) ∧ zRep C' := by
  obtain ⟨v, C1, q1, h1, C2, h2, hR2, _⟩ := pr_stock (d + 20) L C hR (C 100 0 (i + 1)) (C 100 0 (i + 2)) (C 100 0 (i + 3)) (p0, p2, r2, r3, s4)
  obtain ⟨b0, b2, b3, b4, b5⟩ := q1
  have h1 : zR (d + 120) 110 0 [.ref 1, .int (C 100 0 (i + 1)), .int (C 100 0 (i + 2)), .int (C 100 0 (i + 3)), zmk, zmk] [] (zZ L, zI C, zPd p0 p2 r2 r3 s4) = some (some (.int v), (zZ L, zI C1, zPd b0 b2 b3 b4 b5)) := h1
  have h2 : zR (d + 120) 158 0 [.ref 201, .int (C 100 0 (i + 1)), .int (C 100 0 (i + 2)), .int (C 100 0 (i + 3)), zmk, zmk] [] (zZ L, zI C1, zPd b0 b2 b3 b4 b5) = some (some (.int v), (zZ L, zI C2, zPd b0 b2 b3 b4 b5)) := h2
  have e0 : ∀ k, C1 100 0 k = C 100 0 k := zLW_0 h1
  refine ⟨C2, (b0, b2, b3, b4, b5), ?_, hR2⟩
  have a1 : nI i + 1 = nI (i + 1) := nI_add i 1
  have a2 : nI i + 2 = nI (i + 2) := nI_add i 2
  have a3 : nI i + 3 = nI (i + 3) := nI_add i 3
  simp +decide (disch := omega) only [e255_349, e255_368, e255_387, a1, a2, a3, e0, h1, h2, List.cons_append, List.nil_append, zpre, ite_self, Nat.reduceAdd, zs1, zs2, zs3, zI_eqb, and_self, not_true_eq_false, if_true, if_false, ite_true, ite_false, not_false_eq_true, zBP, zBZ, zisO, zisA, zlen, decide_true, decide_false, Bool.and_self, Bool.and_true, Bool.true_and, cond_true, cond_false, zBG, zBR, zBU, zBV, zinb_n, zix_n, zlA, zlB, zlM, zlN, zlX, zlI, nI_add, Nat.add_eq_zero_iff, false_and, and_false, and_true, true_and, true_or, or_true, false_or, or_false, zbool_i, zb0, zb1, zshp_0, zcs_eq, zcs_n, zcs_cs, zup_g, zup_n, zg_srock2, zg_stug2, zg_ssun, zg_ssun0, zg_srock, zg_srock0, zg_stug, zg_stug0, zg_sord, zg_sord0, zg_srep, zg_srep0, zg_scla, zg_scla0, zg_scon, zg_scon0, zg_swin, zg_swin0, zg_sleg, zg_sleg0, zg_spro, zg_sstp, zg_swrd, zu_srock2, zu_stug2, zu_ssun, zu_ssun0, zu_srock, zu_srock0, zu_stug, zu_stug0, zu_sord, zu_sord0, zu_srep, zu_srep0, zu_scla, zu_scla0, zu_scon, zu_scon0, zu_swin, zu_swin0, zu_sleg, zu_sleg0, zu_spro, zu_sstp, zu_swrd]

theorem LW_4 (d L i : Nat) (C : zCt) (p0 p2 r2 r3 s4 : Nat) (hi : i + 7 ≤ L) (hL : L < 2147483648) (hR : zRep C) : ∃ (C' : zCt) (q : Nat × Nat × Nat × Nat × Nat), zR (d + 121) 255 392 [.ref 0, .ref 1, .ref 201, .int (nI i)] [] (zZ L, zI C, zPd p0 p2 r2 r3 s4) = zR (d + 121) 255 1546 [.ref 0, .ref 1, .ref 201, .int (nI i)] [] (zZ L, zI C', zPd q.1 q.2.1 q.2.2.1 q.2.2.2.1 q.2.2.2.2) ∧ zRep C' := by
  obtain ⟨v, C1, q1, h1, C2, h2, hR2, _⟩ := pr_lay (d + 20) L C hR (C 100 0 (i + 1)) (p0, p2, r2, r3, s4)
  obtain ⟨b0, b2, b3, b4, b5⟩ := q1
  have h1 : zR (d + 120) 111 0 [.ref 1, .int (C 100 0 (i + 1)), zmk, zmk, zmk] [] (zZ L, zI C, zPd p0 p2 r2 r3 s4) = some (some (.int v), (zZ L, zI C1, zPd b0 b2 b3 b4 b5)) := h1
  have h2 : zR (d + 120) 159 0 [.ref 201, .int (C 100 0 (i + 1)), zmk, zmk, zmk] [] (zZ L, zI C1, zPd b0 b2 b3 b4 b5) = some (some (.int v), (zZ L, zI C2, zPd b0 b2 b3 b4 b5)) := h2
  have e0 : ∀ k, C1 100 0 k = C 100 0 k := zLW_0 h1
  refine ⟨C2, (b0, b2, b3, b4, b5), ?_, hR2⟩
  have a1 : nI i + 1 = nI (i + 1) := nI_add i 1
  simp +decide (disch := omega) only [e255_392, e255_401, e255_410, a1, e0, h1, h2, List.cons_append, List.nil_append, zpre, ite_self, Nat.reduceAdd, zs1, zs2, zs3, zI_eqb, and_self, not_true_eq_false, if_true, if_false, ite_true, ite_false, not_false_eq_true, zBP, zBZ, zisO, zisA, zlen, decide_true, decide_false, Bool.and_self, Bool.and_true, Bool.true_and, cond_true, cond_false, zBG, zBR, zBU, zBV, zinb_n, zix_n, zlA, zlB, zlM, zlN, zlX, zlI, nI_add, Nat.add_eq_zero_iff, false_and, and_false, and_true, true_and, true_or, or_true, false_or, or_false, zbool_i, zb0, zb1, zshp_0, zcs_eq, zcs_n, zcs_cs, zup_g, zup_n, zg_srock2, zg_stug2, zg_ssun, zg_ssun0, zg_srock, zg_srock0, zg_stug, zg_stug0, zg_sord, zg_sord0, zg_srep, zg_srep0, zg_scla, zg_scla0, zg_scon, zg_scon0, zg_swin, zg_swin0, zg_sleg, zg_sleg0, zg_spro, zg_sstp, zg_swrd, zu_srock2, zu_stug2, zu_ssun, zu_ssun0, zu_srock, zu_srock0, zu_stug, zu_stug0, zu_sord, zu_sord0, zu_srep, zu_srep0, zu_scla, zu_scla0, zu_scon, zu_scon0, zu_swin, zu_swin0, zu_sleg, zu_sleg0, zu_spro, zu_sstp, zu_swrd]

theorem LW_5 (d L i : Nat) (C : zCt) (p0 p2 r2 r3 s4 : Nat) (hi : i + 7 ≤ L) (hL : L < 2147483648) (hR : zRep C) : ∃ (C' : zCt) (q : Nat × Nat × Nat × Nat × Nat), zR (d + 121) 255 415 [.ref 0, .ref 1, .ref 201, .int (nI i)] [] (zZ L, zI C, zPd p0 p2 r2 r3 s4) = zR (d + 121) 255 1546 [.ref 0, .ref 1, .ref 201, .int (nI i)] [] (zZ L, zI C', zPd q.1 q.2.1 q.2.2.1 q.2.2.2.1 q.2.2.2.2) ∧ zRep C' := by
  obtain ⟨v, C1, q1, h1, C2, h2, hR2, _⟩ := pr_told (d + 20) L C hR (C 100 0 (i + 1)) (C 100 0 (i + 2)) (p0, p2, r2, r3, s4)
  obtain ⟨b0, b2, b3, b4, b5⟩ := q1
  have h1 : zR (d + 120) 113 0 [.ref 1, .int (C 100 0 (i + 1)), .int (C 100 0 (i + 2)), zmk] [] (zZ L, zI C, zPd p0 p2 r2 r3 s4) = some (some (.int v), (zZ L, zI C1, zPd b0 b2 b3 b4 b5)) := h1
  have h2 : zR (d + 120) 161 0 [.ref 201, .int (C 100 0 (i + 1)), .int (C 100 0 (i + 2)), zmk] [] (zZ L, zI C1, zPd b0 b2 b3 b4 b5) = some (some (.int v), (zZ L, zI C2, zPd b0 b2 b3 b4 b5)) := h2
  have e0 : ∀ k, C1 100 0 k = C 100 0 k := zLW_0 h1
  refine ⟨C2, (b0, b2, b3, b4, b5), ?_, hR2⟩
  have a1 : nI i + 1 = nI (i + 1) := nI_add i 1
  have a2 : nI i + 2 = nI (i + 2) := nI_add i 2
  simp +decide (disch := omega) only [e255_415, e255_429, e255_443, a1, a2, e0, h1, h2, List.cons_append, List.nil_append, zpre, ite_self, Nat.reduceAdd, zs1, zs2, zs3, zI_eqb, and_self, not_true_eq_false, if_true, if_false, ite_true, ite_false, not_false_eq_true, zBP, zBZ, zisO, zisA, zlen, decide_true, decide_false, Bool.and_self, Bool.and_true, Bool.true_and, cond_true, cond_false, zBG, zBR, zBU, zBV, zinb_n, zix_n, zlA, zlB, zlM, zlN, zlX, zlI, nI_add, Nat.add_eq_zero_iff, false_and, and_false, and_true, true_and, true_or, or_true, false_or, or_false, zbool_i, zb0, zb1, zshp_0, zcs_eq, zcs_n, zcs_cs, zup_g, zup_n, zg_srock2, zg_stug2, zg_ssun, zg_ssun0, zg_srock, zg_srock0, zg_stug, zg_stug0, zg_sord, zg_sord0, zg_srep, zg_srep0, zg_scla, zg_scla0, zg_scon, zg_scon0, zg_swin, zg_swin0, zg_sleg, zg_sleg0, zg_spro, zg_sstp, zg_swrd, zu_srock2, zu_stug2, zu_ssun, zu_ssun0, zu_srock, zu_srock0, zu_stug, zu_stug0, zu_sord, zu_sord0, zu_srep, zu_srep0, zu_scla, zu_scla0, zu_scon, zu_scon0, zu_swin, zu_swin0, zu_sleg, zu_sleg0, zu_spro, zu_sstp, zu_swrd]

theorem LW_6 (d L i : Nat) (C : zCt) (p0 p2 r2 r3 s4 : Nat) (hi : i + 7 ≤ L) (hL : L < 2147483648) (hR : zRep C) : ∃ (C' : zCt) (q : Nat × Nat × Nat × Nat × Nat), zR (d + 121) 255 448 [.ref 0, .ref 1, .ref 201, .int (nI i)] [] (zZ L, zI C, zPd p0 p2 r2 r3 s4) = zR (d + 121) 255 1546 [.ref 0, .ref 1, .ref 201, .int (nI i)] [] (zZ L, zI C', zPd q.1 q.2.1 q.2.2.1 q.2.2.2.1 q.2.2.2.2) ∧ zRep C' := by
  obtain ⟨v, C1, q1, h1, C2, h2, hR2, _⟩ := pr_isOf (d + 20) L C hR (C 100 0 (i + 1)) (C 100 0 (i + 2)) (p0, p2, r2, r3, s4)
  obtain ⟨b0, b2, b3, b4, b5⟩ := q1
  have h1 : zR (d + 120) 114 0 [.ref 1, .int (C 100 0 (i + 1)), .int (C 100 0 (i + 2))] [] (zZ L, zI C, zPd p0 p2 r2 r3 s4) = some (some (.int v), (zZ L, zI C1, zPd b0 b2 b3 b4 b5)) := h1
  have h2 : zR (d + 120) 163 0 [.ref 201, .int (C 100 0 (i + 1)), .int (C 100 0 (i + 2))] [] (zZ L, zI C1, zPd b0 b2 b3 b4 b5) = some (some (.int v), (zZ L, zI C2, zPd b0 b2 b3 b4 b5)) := h2
  have e0 : ∀ k, C1 100 0 k = C 100 0 k := zLW_0 h1
  refine ⟨C2, (b0, b2, b3, b4, b5), ?_, hR2⟩
  have a1 : nI i + 1 = nI (i + 1) := nI_add i 1
  have a2 : nI i + 2 = nI (i + 2) := nI_add i 2
  simp +decide (disch := omega) only [e255_448, e255_462, e255_476, a1, a2, e0, h1, h2, List.cons_append, List.nil_append, zpre, ite_self, Nat.reduceAdd, zs1, zs2, zs3, zI_eqb, and_self, not_true_eq_false, if_true, if_false, ite_true, ite_false, not_false_eq_true, zBP, zBZ, zisO, zisA, zlen, decide_true, decide_false, Bool.and_self, Bool.and_true, Bool.true_and, cond_true, cond_false, zBG, zBR, zBU, zBV, zinb_n, zix_n, zlA, zlB, zlM, zlN, zlX, zlI, nI_add, Nat.add_eq_zero_iff, false_and, and_false, and_true, true_and, true_or, or_true, false_or, or_false, zbool_i, zb0, zb1, zshp_0, zcs_eq, zcs_n, zcs_cs, zup_g, zup_n, zg_srock2, zg_stug2, zg_ssun, zg_ssun0, zg_srock, zg_srock0, zg_stug, zg_stug0, zg_sord, zg_sord0, zg_srep, zg_srep0, zg_scla, zg_scla0, zg_scon, zg_scon0, zg_swin, zg_swin0, zg_sleg, zg_sleg0, zg_spro, zg_sstp, zg_swrd, zu_srock2, zu_stug2, zu_ssun, zu_ssun0, zu_srock, zu_srock0, zu_stug, zu_stug0, zu_sord, zu_sord0, zu_srep, zu_srep0, zu_scla, zu_scla0, zu_scon, zu_scon0, zu_swin, zu_swin0, zu_sleg, zu_sleg0, zu_spro, zu_sstp, zu_swrd]

theorem LW_7 (d L i : Nat) (C : zCt) (p0 p2 r2 r3 s4 : Nat) (hi : i + 7 ≤ L) (hL : L < 2147483648) (hR : zRep C) : ∃ (C' : zCt) (q : Nat × Nat × Nat × Nat × Nat), zR (d + 121) 255 481 [.ref 0, .ref 1, .ref 201, .int (nI i)] [] (zZ L, zI C, zPd p0 p2 r2 r3 s4) = zR (d + 121) 255 1546 [.ref 0, .ref 1, .ref 201, .int (nI i)] [] (zZ L, zI C', zPd q.1 q.2.1 q.2.2.1 q.2.2.2.1 q.2.2.2.2) ∧ zRep C' := by
  obtain ⟨v, C1, q1, h1, C2, h2, hR2, _⟩ := pr_weigh (d + 20) L C hR (C 100 0 (i + 1)) (C 100 0 (i + 2)) (C 100 0 (i + 3)) (p0, p2, r2, r3, s4)
  obtain ⟨b0, b2, b3, b4, b5⟩ := q1
  have h1 : zR (d + 120) 116 0 [.ref 1, .int (C 100 0 (i + 1)), .int (C 100 0 (i + 2)), .int (C 100 0 (i + 3)), zmk] [] (zZ L, zI C, zPd p0 p2 r2 r3 s4) = some (some (.int v), (zZ L, zI C1, zPd b0 b2 b3 b4 b5)) := h1
  have h2 : zR (d + 120) 165 0 [.ref 201, .int (C 100 0 (i + 1)), .int (C 100 0 (i + 2)), .int (C 100 0 (i + 3)), zmk] [] (zZ L, zI C1, zPd b0 b2 b3 b4 b5) = some (some (.int v), (zZ L, zI C2, zPd b0 b2 b3 b4 b5)) := h2
  have e0 : ∀ k, C1 100 0 k = C 100 0 k := zLW_0 h1
  refine ⟨C2, (b0, b2, b3, b4, b5), ?_, hR2⟩
  have a1 : nI i + 1 = nI (i + 1) := nI_add i 1
  have a2 : nI i + 2 = nI (i + 2) := nI_add i 2
  have a3 : nI i + 3 = nI (i + 3) := nI_add i 3
  simp +decide (disch := omega) only [e255_481, e255_500, e255_519, a1, a2, a3, e0, h1, h2, List.cons_append, List.nil_append, zpre, ite_self, Nat.reduceAdd, zs1, zs2, zs3, zI_eqb, and_self, not_true_eq_false, if_true, if_false, ite_true, ite_false, not_false_eq_true, zBP, zBZ, zisO, zisA, zlen, decide_true, decide_false, Bool.and_self, Bool.and_true, Bool.true_and, cond_true, cond_false, zBG, zBR, zBU, zBV, zinb_n, zix_n, zlA, zlB, zlM, zlN, zlX, zlI, nI_add, Nat.add_eq_zero_iff, false_and, and_false, and_true, true_and, true_or, or_true, false_or, or_false, zbool_i, zb0, zb1, zshp_0, zcs_eq, zcs_n, zcs_cs, zup_g, zup_n, zg_srock2, zg_stug2, zg_ssun, zg_ssun0, zg_srock, zg_srock0, zg_stug, zg_stug0, zg_sord, zg_sord0, zg_srep, zg_srep0, zg_scla, zg_scla0, zg_scon, zg_scon0, zg_swin, zg_swin0, zg_sleg, zg_sleg0, zg_spro, zg_sstp, zg_swrd, zu_srock2, zu_stug2, zu_ssun, zu_ssun0, zu_srock, zu_srock0, zu_stug, zu_stug0, zu_sord, zu_sord0, zu_srep, zu_srep0, zu_scla, zu_scla0, zu_scon, zu_scon0, zu_swin, zu_swin0, zu_sleg, zu_sleg0, zu_spro, zu_sstp, zu_swrd]

theorem LW_8 (d L i : Nat) (C : zCt) (p0 p2 r2 r3 s4 : Nat) (hi : i + 7 ≤ L) (hL : L < 2147483648) (hR : zRep C) : ∃ (C' : zCt) (q : Nat × Nat × Nat × Nat × Nat), zR (d + 121) 255 524 [.ref 0, .ref 1, .ref 201, .int (nI i)] [] (zZ L, zI C, zPd p0 p2 r2 r3 s4) = zR (d + 121) 255 1546 [.ref 0, .ref 1, .ref 201, .int (nI i)] [] (zZ L, zI C', zPd q.1 q.2.1 q.2.2.1 q.2.2.2.1 q.2.2.2.2) ∧ zRep C' := by
  obtain ⟨v, C1, q1, h1, C2, h2, hR2, _⟩ := pr_learnt (d + 20) L C hR (C 100 0 (i + 1)) (C 100 0 (i + 2)) (p0, p2, r2, r3, s4)
  obtain ⟨b0, b2, b3, b4, b5⟩ := q1
  have h1 : zR (d + 120) 117 0 [.ref 1, .int (C 100 0 (i + 1)), .int (C 100 0 (i + 2))] [] (zZ L, zI C, zPd p0 p2 r2 r3 s4) = some (some (.int v), (zZ L, zI C1, zPd b0 b2 b3 b4 b5)) := h1
  have h2 : zR (d + 120) 166 0 [.ref 201, .int (C 100 0 (i + 1)), .int (C 100 0 (i + 2))] [] (zZ L, zI C1, zPd b0 b2 b3 b4 b5) = some (some (.int v), (zZ L, zI C2, zPd b0 b2 b3 b4 b5)) := h2
  have e0 : ∀ k, C1 100 0 k = C 100 0 k := zLW_0 h1
  refine ⟨C2, (b0, b2, b3, b4, b5), ?_, hR2⟩
  have a1 : nI i + 1 = nI (i + 1) := nI_add i 1
  have a2 : nI i + 2 = nI (i + 2) := nI_add i 2
  simp +decide (disch := omega) only [e255_524, e255_538, e255_552, a1, a2, e0, h1, h2, List.cons_append, List.nil_append, zpre, ite_self, Nat.reduceAdd, zs1, zs2, zs3, zI_eqb, and_self, not_true_eq_false, if_true, if_false, ite_true, ite_false, not_false_eq_true, zBP, zBZ, zisO, zisA, zlen, decide_true, decide_false, Bool.and_self, Bool.and_true, Bool.true_and, cond_true, cond_false, zBG, zBR, zBU, zBV, zinb_n, zix_n, zlA, zlB, zlM, zlN, zlX, zlI, nI_add, Nat.add_eq_zero_iff, false_and, and_false, and_true, true_and, true_or, or_true, false_or, or_false, zbool_i, zb0, zb1, zshp_0, zcs_eq, zcs_n, zcs_cs, zup_g, zup_n, zg_srock2, zg_stug2, zg_ssun, zg_ssun0, zg_srock, zg_srock0, zg_stug, zg_stug0, zg_sord, zg_sord0, zg_srep, zg_srep0, zg_scla, zg_scla0, zg_scon, zg_scon0, zg_swin, zg_swin0, zg_sleg, zg_sleg0, zg_spro, zg_sstp, zg_swrd, zu_srock2, zu_stug2, zu_ssun, zu_ssun0, zu_srock, zu_srock0, zu_stug, zu_stug0, zu_sord, zu_sord0, zu_srep, zu_srep0, zu_scla, zu_scla0, zu_scon, zu_scon0, zu_swin, zu_swin0, zu_sleg, zu_sleg0, zu_spro, zu_sstp, zu_swrd]

theorem LW_9 (d L i : Nat) (C : zCt) (p0 p2 r2 r3 s4 : Nat) (hi : i + 7 ≤ L) (hL : L < 2147483648) (hR : zRep C) : ∃ (C' : zCt) (q : Nat × Nat × Nat × Nat × Nat), zR (d + 121) 255 557 [.ref 0, .ref 1, .ref 201, .int (nI i)] [] (zZ L, zI C, zPd p0 p2 r2 r3 s4) = zR (d + 121) 255 1546 [.ref 0, .ref 1, .ref 201, .int (nI i)] [] (zZ L, zI C', zPd q.1 q.2.1 q.2.2.1 q.2.2.2.1 q.2.2.2.2) ∧ zRep C' := by
  obtain ⟨v, C1, q1, h1, C2, h2, hR2, _⟩ := pr_tug (d + 20) L C hR (C 100 0 (i + 1)) (C 100 0 (i + 2)) (C 100 0 (i + 3)) (C 100 0 (i + 4)) (p0, p2, r2, r3, s4)
  obtain ⟨b0, b2, b3, b4, b5⟩ := q1
  have h1 : zR (d + 120) 118 0 [.ref 1, .int (C 100 0 (i + 1)), .int (C 100 0 (i + 2)), .int (C 100 0 (i + 3)), .int (C 100 0 (i + 4)), zmk] [] (zZ L, zI C, zPd p0 p2 r2 r3 s4) = some (some (.int v), (zZ L, zI C1, zPd b0 b2 b3 b4 b5)) := h1
  have h2 : zR (d + 120) 167 0 [.ref 201, .int (C 100 0 (i + 1)), .int (C 100 0 (i + 2)), .int (C 100 0 (i + 3)), .int (C 100 0 (i + 4)), zmk, zmk] [] (zZ L, zI C1, zPd b0 b2 b3 b4 b5) = some (some (.int v), (zZ L, zI C2, zPd b0 b2 b3 b4 b5)) := h2
  have e0 : ∀ k, C1 100 0 k = C 100 0 k := zLW_0 h1
  refine ⟨C2, (b0, b2, b3, b4, b5), ?_, hR2⟩
  have a1 : nI i + 1 = nI (i + 1) := nI_add i 1
  have a2 : nI i + 2 = nI (i + 2) := nI_add i 2
  have a3 : nI i + 3 = nI (i + 3) := nI_add i 3
  have a4 : nI i + 4 = nI (i + 4) := nI_add i 4
  simp +decide (disch := omega) only [e255_557, e255_581, e255_605, a1, a2, a3, a4, e0, h1, h2, List.cons_append, List.nil_append, zpre, ite_self, Nat.reduceAdd, zs1, zs2, zs3, zI_eqb, and_self, not_true_eq_false, if_true, if_false, ite_true, ite_false, not_false_eq_true, zBP, zBZ, zisO, zisA, zlen, decide_true, decide_false, Bool.and_self, Bool.and_true, Bool.true_and, cond_true, cond_false, zBG, zBR, zBU, zBV, zinb_n, zix_n, zlA, zlB, zlM, zlN, zlX, zlI, nI_add, Nat.add_eq_zero_iff, false_and, and_false, and_true, true_and, true_or, or_true, false_or, or_false, zbool_i, zb0, zb1, zshp_0, zcs_eq, zcs_n, zcs_cs, zup_g, zup_n, zg_srock2, zg_stug2, zg_ssun, zg_ssun0, zg_srock, zg_srock0, zg_stug, zg_stug0, zg_sord, zg_sord0, zg_srep, zg_srep0, zg_scla, zg_scla0, zg_scon, zg_scon0, zg_swin, zg_swin0, zg_sleg, zg_sleg0, zg_spro, zg_sstp, zg_swrd, zu_srock2, zu_stug2, zu_ssun, zu_ssun0, zu_srock, zu_srock0, zu_stug, zu_stug0, zu_sord, zu_sord0, zu_srep, zu_srep0, zu_scla, zu_scla0, zu_scon, zu_scon0, zu_swin, zu_swin0, zu_sleg, zu_sleg0, zu_spro, zu_sstp, zu_swrd]

theorem LW_10 (d L i : Nat) (C : zCt) (p0 p2 r2 r3 s4 : Nat) (hi : i + 7 ≤ L) (hL : L < 2147483648) (hR : zRep C) : ∃ (C' : zCt) (q : Nat × Nat × Nat × Nat × Nat), zR (d + 121) 255 610 [.ref 0, .ref 1, .ref 201, .int (nI i)] [] (zZ L, zI C, zPd p0 p2 r2 r3 s4) = zR (d + 121) 255 1546 [.ref 0, .ref 1, .ref 201, .int (nI i)] [] (zZ L, zI C', zPd q.1 q.2.1 q.2.2.1 q.2.2.2.1 q.2.2.2.2) ∧ zRep C' := by
  obtain ⟨v, C1, q1, h1, C2, h2, hR2, _⟩ := pr_is (d + 20) L C hR (C 100 0 (i + 1)) (C 100 0 (i + 2)) (p0, p2, r2, r3, s4)
  obtain ⟨b0, b2, b3, b4, b5⟩ := q1
  have h1 : zR (d + 120) 119 0 [.ref 1, .int (C 100 0 (i + 1)), .int (C 100 0 (i + 2))] [] (zZ L, zI C, zPd p0 p2 r2 r3 s4) = some (some (.int v), (zZ L, zI C1, zPd b0 b2 b3 b4 b5)) := h1
  have h2 : zR (d + 120) 168 0 [.ref 201, .int (C 100 0 (i + 1)), .int (C 100 0 (i + 2))] [] (zZ L, zI C1, zPd b0 b2 b3 b4 b5) = some (some (.int v), (zZ L, zI C2, zPd b0 b2 b3 b4 b5)) := h2
  have e0 : ∀ k, C1 100 0 k = C 100 0 k := zLW_0 h1
  refine ⟨C2, (b0, b2, b3, b4, b5), ?_, hR2⟩
  have a1 : nI i + 1 = nI (i + 1) := nI_add i 1
  have a2 : nI i + 2 = nI (i + 2) := nI_add i 2
  simp +decide (disch := omega) only [e255_610, e255_624, e255_638, a1, a2, e0, h1, h2, List.cons_append, List.nil_append, zpre, ite_self, Nat.reduceAdd, zs1, zs2, zs3, zI_eqb, and_self, not_true_eq_false, if_true, if_false, ite_true, ite_false, not_false_eq_true, zBP, zBZ, zisO, zisA, zlen, decide_true, decide_false, Bool.and_self, Bool.and_true, Bool.true_and, cond_true, cond_false, zBG, zBR, zBU, zBV, zinb_n, zix_n, zlA, zlB, zlM, zlN, zlX, zlI, nI_add, Nat.add_eq_zero_iff, false_and, and_false, and_true, true_and, true_or, or_true, false_or, or_false, zbool_i, zb0, zb1, zshp_0, zcs_eq, zcs_n, zcs_cs, zup_g, zup_n, zg_srock2, zg_stug2, zg_ssun, zg_ssun0, zg_srock, zg_srock0, zg_stug, zg_stug0, zg_sord, zg_sord0, zg_srep, zg_srep0, zg_scla, zg_scla0, zg_scon, zg_scon0, zg_swin, zg_swin0, zg_sleg, zg_sleg0, zg_spro, zg_sstp, zg_swrd, zu_srock2, zu_stug2, zu_ssun, zu_ssun0, zu_srock, zu_srock0, zu_stug, zu_stug0, zu_sord, zu_sord0, zu_srep, zu_srep0, zu_scla, zu_scla0, zu_scon, zu_scon0, zu_swin, zu_swin0, zu_sleg, zu_sleg0, zu_spro, zu_sstp, zu_swrd]

theorem LW_11 (d L i : Nat) (C : zCt) (p0 p2 r2 r3 s4 : Nat) (hi : i + 7 ≤ L) (hL : L < 2147483648) (hR : zRep C) : ∃ (C' : zCt) (q : Nat × Nat × Nat × Nat × Nat), zR (d + 121) 255 643 [.ref 0, .ref 1, .ref 201, .int (nI i)] [] (zZ L, zI C, zPd p0 p2 r2 r3 s4) = zR (d + 121) 255 1546 [.ref 0, .ref 1, .ref 201, .int (nI i)] [] (zZ L, zI C', zPd q.1 q.2.1 q.2.2.1 q.2.2.2.1 q.2.2.2.2) ∧ zRep C' := by
  obtain ⟨v, C1, q1, h1, C2, h2, hR2, _⟩ := pr_moor (d + 20) L C hR (C 100 0 (i + 1)) (C 100 0 (i + 2)) (p0, p2, r2, r3, s4)
  obtain ⟨b0, b2, b3, b4, b5⟩ := q1
  have h1 : zR (d + 120) 120 0 [.ref 1, .int (C 100 0 (i + 1)), .int (C 100 0 (i + 2))] [] (zZ L, zI C, zPd p0 p2 r2 r3 s4) = some (some (.int v), (zZ L, zI C1, zPd b0 b2 b3 b4 b5)) := h1
  have h2 : zR (d + 120) 170 0 [.ref 201, .int (C 100 0 (i + 1)), .int (C 100 0 (i + 2))] [] (zZ L, zI C1, zPd b0 b2 b3 b4 b5) = some (some (.int v), (zZ L, zI C2, zPd b0 b2 b3 b4 b5)) := h2
  have e0 : ∀ k, C1 100 0 k = C 100 0 k := zLW_0 h1
  refine ⟨C2, (b0, b2, b3, b4, b5), ?_, hR2⟩
  have a1 : nI i + 1 = nI (i + 1) := nI_add i 1
  have a2 : nI i + 2 = nI (i + 2) := nI_add i 2
  simp +decide (disch := omega) only [e255_643, e255_657, e255_671, a1, a2, e0, h1, h2, List.cons_append, List.nil_append, zpre, ite_self, Nat.reduceAdd, zs1, zs2, zs3, zI_eqb, and_self, not_true_eq_false, if_true, if_false, ite_true, ite_false, not_false_eq_true, zBP, zBZ, zisO, zisA, zlen, decide_true, decide_false, Bool.and_self, Bool.and_true, Bool.true_and, cond_true, cond_false, zBG, zBR, zBU, zBV, zinb_n, zix_n, zlA, zlB, zlM, zlN, zlX, zlI, nI_add, Nat.add_eq_zero_iff, false_and, and_false, and_true, true_and, true_or, or_true, false_or, or_false, zbool_i, zb0, zb1, zshp_0, zcs_eq, zcs_n, zcs_cs, zup_g, zup_n, zg_srock2, zg_stug2, zg_ssun, zg_ssun0, zg_srock, zg_srock0, zg_stug, zg_stug0, zg_sord, zg_sord0, zg_srep, zg_srep0, zg_scla, zg_scla0, zg_scon, zg_scon0, zg_swin, zg_swin0, zg_sleg, zg_sleg0, zg_spro, zg_sstp, zg_swrd, zu_srock2, zu_stug2, zu_ssun, zu_ssun0, zu_srock, zu_srock0, zu_stug, zu_stug0, zu_sord, zu_sord0, zu_srep, zu_srep0, zu_scla, zu_scla0, zu_scon, zu_scon0, zu_swin, zu_swin0, zu_sleg, zu_sleg0, zu_spro, zu_sstp, zu_swrd]

theorem LW_12 (d L i : Nat) (C : zCt) (p0 p2 r2 r3 s4 : Nat) (hi : i + 7 ≤ L) (hL : L < 2147483648) (hR : zRep C) : ∃ (C' : zCt) (q : Nat × Nat × Nat × Nat × Nat), zR (d + 121) 255 676 [.ref 0, .ref 1, .ref 201, .int (nI i)] [] (zZ L, zI C, zPd p0 p2 r2 r3 s4) = zR (d + 121) 255 1546 [.ref 0, .ref 1, .ref 201, .int (nI i)] [] (zZ L, zI C', zPd q.1 q.2.1 q.2.2.1 q.2.2.2.1 q.2.2.2.2) ∧ zRep C' := by
  obtain ⟨v, C1, q1, h1, C2, h2, hR2, _⟩ := pr_dark (d + 20) L C hR (C 100 0 (i + 1)) (C 100 0 (i + 2)) (p0, p2, r2, r3, s4)
  obtain ⟨b0, b2, b3, b4, b5⟩ := q1
  have h1 : zR (d + 120) 121 0 [.ref 1, .int (C 100 0 (i + 1)), .int (C 100 0 (i + 2)), zmk, zmk] [] (zZ L, zI C, zPd p0 p2 r2 r3 s4) = some (some (.int v), (zZ L, zI C1, zPd b0 b2 b3 b4 b5)) := h1
  have h2 : zR (d + 120) 173 0 [.ref 201, .int (C 100 0 (i + 1)), .int (C 100 0 (i + 2)), zmk] [] (zZ L, zI C1, zPd b0 b2 b3 b4 b5) = some (some (.int v), (zZ L, zI C2, zPd b0 b2 b3 b4 b5)) := h2
  have e0 : ∀ k, C1 100 0 k = C 100 0 k := zLW_0 h1
  refine ⟨C2, (b0, b2, b3, b4, b5), ?_, hR2⟩
  have a1 : nI i + 1 = nI (i + 1) := nI_add i 1
  have a2 : nI i + 2 = nI (i + 2) := nI_add i 2
  simp +decide (disch := omega) only [e255_676, e255_690, e255_704, a1, a2, e0, h1, h2, List.cons_append, List.nil_append, zpre, ite_self, Nat.reduceAdd, zs1, zs2, zs3, zI_eqb, and_self, not_true_eq_false, if_true, if_false, ite_true, ite_false, not_false_eq_true, zBP, zBZ, zisO, zisA, zlen, decide_true, decide_false, Bool.and_self, Bool.and_true, Bool.true_and, cond_true, cond_false, zBG, zBR, zBU, zBV, zinb_n, zix_n, zlA, zlB, zlM, zlN, zlX, zlI, nI_add, Nat.add_eq_zero_iff, false_and, and_false, and_true, true_and, true_or, or_true, false_or, or_false, zbool_i, zb0, zb1, zshp_0, zcs_eq, zcs_n, zcs_cs, zup_g, zup_n, zg_srock2, zg_stug2, zg_ssun, zg_ssun0, zg_srock, zg_srock0, zg_stug, zg_stug0, zg_sord, zg_sord0, zg_srep, zg_srep0, zg_scla, zg_scla0, zg_scon, zg_scon0, zg_swin, zg_swin0, zg_sleg, zg_sleg0, zg_spro, zg_sstp, zg_swrd, zu_srock2, zu_stug2, zu_ssun, zu_ssun0, zu_srock, zu_srock0, zu_stug, zu_stug0, zu_sord, zu_sord0, zu_srep, zu_srep0, zu_scla, zu_scla0, zu_scon, zu_scon0, zu_swin, zu_swin0, zu_sleg, zu_sleg0, zu_spro, zu_sstp, zu_swrd]

theorem LW_13 (d L i : Nat) (C : zCt) (p0 p2 r2 r3 s4 : Nat) (hi : i + 7 ≤ L) (hL : L < 2147483648) (hR : zRep C) : ∃ (C' : zCt) (q : Nat × Nat × Nat × Nat × Nat), zR (d + 121) 255 709 [.ref 0, .ref 1, .ref 201, .int (nI i)] [] (zZ L, zI C, zPd p0 p2 r2 r3 s4) = zR (d + 121) 255 1546 [.ref 0, .ref 1, .ref 201, .int (nI i)] [] (zZ L, zI C', zPd q.1 q.2.1 q.2.2.1 q.2.2.2.1 q.2.2.2.2) ∧ zRep C' := by
  obtain ⟨v, C1, q1, h1, C2, h2, hR2, _⟩ := pr_has (d + 20) L C hR (C 100 0 (i + 1)) (C 100 0 (i + 2)) (p0, p2, r2, r3, s4)
  obtain ⟨b0, b2, b3, b4, b5⟩ := q1
  have h1 : zR (d + 120) 122 0 [.ref 1, .int (C 100 0 (i + 1)), .int (C 100 0 (i + 2)), zmk, zmk] [] (zZ L, zI C, zPd p0 p2 r2 r3 s4) = some (some (.int v), (zZ L, zI C1, zPd b0 b2 b3 b4 b5)) := h1
  have h2 : zR (d + 120) 174 0 [.ref 201, .int (C 100 0 (i + 1)), .int (C 100 0 (i + 2)), zmk] [] (zZ L, zI C1, zPd b0 b2 b3 b4 b5) = some (some (.int v), (zZ L, zI C2, zPd b0 b2 b3 b4 b5)) := h2
  have e0 : ∀ k, C1 100 0 k = C 100 0 k := zLW_0 h1
  refine ⟨C2, (b0, b2, b3, b4, b5), ?_, hR2⟩
  have a1 : nI i + 1 = nI (i + 1) := nI_add i 1
  have a2 : nI i + 2 = nI (i + 2) := nI_add i 2
  simp +decide (disch := omega) only [e255_709, e255_723, e255_737, a1, a2, e0, h1, h2, List.cons_append, List.nil_append, zpre, ite_self, Nat.reduceAdd, zs1, zs2, zs3, zI_eqb, and_self, not_true_eq_false, if_true, if_false, ite_true, ite_false, not_false_eq_true, zBP, zBZ, zisO, zisA, zlen, decide_true, decide_false, Bool.and_self, Bool.and_true, Bool.true_and, cond_true, cond_false, zBG, zBR, zBU, zBV, zinb_n, zix_n, zlA, zlB, zlM, zlN, zlX, zlI, nI_add, Nat.add_eq_zero_iff, false_and, and_false, and_true, true_and, true_or, or_true, false_or, or_false, zbool_i, zb0, zb1, zshp_0, zcs_eq, zcs_n, zcs_cs, zup_g, zup_n, zg_srock2, zg_stug2, zg_ssun, zg_ssun0, zg_srock, zg_srock0, zg_stug, zg_stug0, zg_sord, zg_sord0, zg_srep, zg_srep0, zg_scla, zg_scla0, zg_scon, zg_scon0, zg_swin, zg_swin0, zg_sleg, zg_sleg0, zg_spro, zg_sstp, zg_swrd, zu_srock2, zu_stug2, zu_ssun, zu_ssun0, zu_srock, zu_srock0, zu_stug, zu_stug0, zu_sord, zu_sord0, zu_srep, zu_srep0, zu_scla, zu_scla0, zu_scon, zu_scon0, zu_swin, zu_swin0, zu_sleg, zu_sleg0, zu_spro, zu_sstp, zu_swrd]

theorem LW_14 (d L i : Nat) (C : zCt) (p0 p2 r2 r3 s4 : Nat) (hi : i + 7 ≤ L) (hL : L < 2147483648) (hR : zRep C) : ∃ (C' : zCt) (q : Nat × Nat × Nat × Nat × Nat), zR (d + 121) 255 742 [.ref 0, .ref 1, .ref 201, .int (nI i)] [] (zZ L, zI C, zPd p0 p2 r2 r3 s4) = zR (d + 121) 255 1546 [.ref 0, .ref 1, .ref 201, .int (nI i)] [] (zZ L, zI C', zPd q.1 q.2.1 q.2.2.1 q.2.2.2.1 q.2.2.2.2) ∧ zRep C' := by
  obtain ⟨v, C1, q1, h1, C2, h2, hR2, _⟩ := pr_feed (d + 20) L C hR (C 100 0 (i + 1)) (C 100 0 (i + 2)) (C 100 0 (i + 3)) (p0, p2, r2, r3, s4)
  obtain ⟨b0, b2, b3, b4, b5⟩ := q1
  have h1 : zR (d + 120) 123 0 [.ref 1, .int (C 100 0 (i + 1)), .int (C 100 0 (i + 2)), .int (C 100 0 (i + 3))] [] (zZ L, zI C, zPd p0 p2 r2 r3 s4) = some (some (.int v), (zZ L, zI C1, zPd b0 b2 b3 b4 b5)) := h1
  have h2 : zR (d + 120) 176 0 [.ref 201, .int (C 100 0 (i + 1)), .int (C 100 0 (i + 2)), .int (C 100 0 (i + 3)), zmk, zmk] [] (zZ L, zI C1, zPd b0 b2 b3 b4 b5) = some (some (.int v), (zZ L, zI C2, zPd b0 b2 b3 b4 b5)) := h2
  have e0 : ∀ k, C1 100 0 k = C 100 0 k := zLW_0 h1
  refine ⟨C2, (b0, b2, b3, b4, b5), ?_, hR2⟩
  have a1 : nI i + 1 = nI (i + 1) := nI_add i 1
  have a2 : nI i + 2 = nI (i + 2) := nI_add i 2
  have a3 : nI i + 3 = nI (i + 3) := nI_add i 3
  simp +decide (disch := omega) only [e255_742, e255_761, e255_780, a1, a2, a3, e0, h1, h2, List.cons_append, List.nil_append, zpre, ite_self, Nat.reduceAdd, zs1, zs2, zs3, zI_eqb, and_self, not_true_eq_false, if_true, if_false, ite_true, ite_false, not_false_eq_true, zBP, zBZ, zisO, zisA, zlen, decide_true, decide_false, Bool.and_self, Bool.and_true, Bool.true_and, cond_true, cond_false, zBG, zBR, zBU, zBV, zinb_n, zix_n, zlA, zlB, zlM, zlN, zlX, zlI, nI_add, Nat.add_eq_zero_iff, false_and, and_false, and_true, true_and, true_or, or_true, false_or, or_false, zbool_i, zb0, zb1, zshp_0, zcs_eq, zcs_n, zcs_cs, zup_g, zup_n, zg_srock2, zg_stug2, zg_ssun, zg_ssun0, zg_srock, zg_srock0, zg_stug, zg_stug0, zg_sord, zg_sord0, zg_srep, zg_srep0, zg_scla, zg_scla0, zg_scon, zg_scon0, zg_swin, zg_swin0, zg_sleg, zg_sleg0, zg_spro, zg_sstp, zg_swrd, zu_srock2, zu_stug2, zu_ssun, zu_ssun0, zu_srock, zu_srock0, zu_stug, zu_stug0, zu_sord, zu_sord0, zu_srep, zu_srep0, zu_scla, zu_scla0, zu_scon, zu_scon0, zu_swin, zu_swin0, zu_sleg, zu_sleg0, zu_spro, zu_sstp, zu_swrd]

theorem LW_15 (d L i : Nat) (C : zCt) (p0 p2 r2 r3 s4 : Nat) (hi : i + 7 ≤ L) (hL : L < 2147483648) (hR : zRep C) : ∃ (C' : zCt) (q : Nat × Nat × Nat × Nat × Nat), zR (d + 121) 255 785 [.ref 0, .ref 1, .ref 201, .int (nI i)] [] (zZ L, zI C, zPd p0 p2 r2 r3 s4) = zR (d + 121) 255 1546 [.ref 0, .ref 1, .ref 201, .int (nI i)] [] (zZ L, zI C', zPd q.1 q.2.1 q.2.2.1 q.2.2.2.1 q.2.2.2.2) ∧ zRep C' := by
  obtain ⟨v, C1, q1, h1, C2, h2, hR2, _⟩ := pr_trim (d + 20) L C hR (C 100 0 (i + 1)) (p0, p2, r2, r3, s4)
  obtain ⟨b0, b2, b3, b4, b5⟩ := q1
  have h1 : zR (d + 120) 125 0 [.ref 1, .int (C 100 0 (i + 1))] [] (zZ L, zI C, zPd p0 p2 r2 r3 s4) = some (some (.int v), (zZ L, zI C1, zPd b0 b2 b3 b4 b5)) := h1
  have h2 : zR (d + 120) 177 0 [.ref 201, .int (C 100 0 (i + 1))] [] (zZ L, zI C1, zPd b0 b2 b3 b4 b5) = some (some (.int v), (zZ L, zI C2, zPd b0 b2 b3 b4 b5)) := h2
  have e0 : ∀ k, C1 100 0 k = C 100 0 k := zLW_0 h1
  refine ⟨C2, (b0, b2, b3, b4, b5), ?_, hR2⟩
  have a1 : nI i + 1 = nI (i + 1) := nI_add i 1
  simp +decide (disch := omega) only [e255_785, e255_794, e255_803, a1, e0, h1, h2, List.cons_append, List.nil_append, zpre, ite_self, Nat.reduceAdd, zs1, zs2, zs3, zI_eqb, and_self, not_true_eq_false, if_true, if_false, ite_true, ite_false, not_false_eq_true, zBP, zBZ, zisO, zisA, zlen, decide_true, decide_false, Bool.and_self, Bool.and_true, Bool.true_and, cond_true, cond_false, zBG, zBR, zBU, zBV, zinb_n, zix_n, zlA, zlB, zlM, zlN, zlX, zlI, nI_add, Nat.add_eq_zero_iff, false_and, and_false, and_true, true_and, true_or, or_true, false_or, or_false, zbool_i, zb0, zb1, zshp_0, zcs_eq, zcs_n, zcs_cs, zup_g, zup_n, zg_srock2, zg_stug2, zg_ssun, zg_ssun0, zg_srock, zg_srock0, zg_stug, zg_stug0, zg_sord, zg_sord0, zg_srep, zg_srep0, zg_scla, zg_scla0, zg_scon, zg_scon0, zg_swin, zg_swin0, zg_sleg, zg_sleg0, zg_spro, zg_sstp, zg_swrd, zu_srock2, zu_stug2, zu_ssun, zu_ssun0, zu_srock, zu_srock0, zu_stug, zu_stug0, zu_sord, zu_sord0, zu_srep, zu_srep0, zu_scla, zu_scla0, zu_scon, zu_scon0, zu_swin, zu_swin0, zu_sleg, zu_sleg0, zu_spro, zu_sstp, zu_swrd]

theorem LW_16 (d L i : Nat) (C : zCt) (p0 p2 r2 r3 s4 : Nat) (hi : i + 7 ≤ L) (hL : L < 2147483648) (hR : zRep C) : ∃ (C' : zCt) (q : Nat × Nat × Nat × Nat × Nat), zR (d + 121) 255 808 [.ref 0, .ref 1, .ref 201, .int (nI i)] [] (zZ L, zI C, zPd p0 p2 r2 r3 s4) = zR (d + 121) 255 1546 [.ref 0, .ref 1, .ref 201, .int (nI i)] [] (zZ L, zI C', zPd q.1 q.2.1 q.2.2.1 q.2.2.2.1 q.2.2.2.2) ∧ zRep C' := by
  obtain ⟨v, C1, q1, h1, C2, h2, hR2, _⟩ := pr_program d L C hR (C 100 0 (i + 1)) (p0, p2, r2, r3, s4)
  obtain ⟨b0, b2, b3, b4, b5⟩ := q1
  have h1 : zR (d + 120) 126 0 [.ref 1, .int (C 100 0 (i + 1)), zmk] [] (zZ L, zI C, zPd p0 p2 r2 r3 s4) = some (some (.int v), (zZ L, zI C1, zPd b0 b2 b3 b4 b5)) := h1
  have h2 : zR (d + 120) 178 0 [.ref 201, .int (C 100 0 (i + 1)), zmk, zmk] [] (zZ L, zI C1, zPd b0 b2 b3 b4 b5) = some (some (.int v), (zZ L, zI C2, zPd b0 b2 b3 b4 b5)) := h2
  have e0 : ∀ k, C1 100 0 k = C 100 0 k := zLW_0 h1
  refine ⟨C2, (b0, b2, b3, b4, b5), ?_, hR2⟩
  have a1 : nI i + 1 = nI (i + 1) := nI_add i 1
  simp +decide (disch := omega) only [e255_808, e255_817, e255_826, a1, e0, h1, h2, List.cons_append, List.nil_append, zpre, ite_self, Nat.reduceAdd, zs1, zs2, zs3, zI_eqb, and_self, not_true_eq_false, if_true, if_false, ite_true, ite_false, not_false_eq_true, zBP, zBZ, zisO, zisA, zlen, decide_true, decide_false, Bool.and_self, Bool.and_true, Bool.true_and, cond_true, cond_false, zBG, zBR, zBU, zBV, zinb_n, zix_n, zlA, zlB, zlM, zlN, zlX, zlI, nI_add, Nat.add_eq_zero_iff, false_and, and_false, and_true, true_and, true_or, or_true, false_or, or_false, zbool_i, zb0, zb1, zshp_0, zcs_eq, zcs_n, zcs_cs, zup_g, zup_n, zg_srock2, zg_stug2, zg_ssun, zg_ssun0, zg_srock, zg_srock0, zg_stug, zg_stug0, zg_sord, zg_sord0, zg_srep, zg_srep0, zg_scla, zg_scla0, zg_scon, zg_scon0, zg_swin, zg_swin0, zg_sleg, zg_sleg0, zg_spro, zg_sstp, zg_swrd, zu_srock2, zu_stug2, zu_ssun, zu_ssun0, zu_srock, zu_srock0, zu_stug, zu_stug0, zu_sord, zu_sord0, zu_srep, zu_srep0, zu_scla, zu_scla0, zu_scon, zu_scon0, zu_swin, zu_swin0, zu_sleg, zu_sleg0, zu_spro, zu_sstp, zu_swrd]

theorem LW_17 (d L i : Nat) (C : zCt) (p0 p2 r2 r3 s4 : Nat) (hi : i + 7 ≤ L) (hL : L < 2147483648) (hR : zRep C) : ∃ (C' : zCt) (q : Nat × Nat × Nat × Nat × Nat), zR (d + 121) 255 831 [.ref 0, .ref 1, .ref 201, .int (nI i)] [] (zZ L, zI C, zPd p0 p2 r2 r3 s4) = zR (d + 121) 255 1546 [.ref 0, .ref 1, .ref 201, .int (nI i)] [] (zZ L, zI C', zPd q.1 q.2.1 q.2.2.1 q.2.2.2.1 q.2.2.2.2) ∧ zRep C' := by
  obtain ⟨v, C1, q1, h1, C2, h2, hR2, _⟩ := pr_send (d + 20) L C hR (C 100 0 (i + 1)) (C 100 0 (i + 2)) (p0, p2, r2, r3, s4)
  obtain ⟨b0, b2, b3, b4, b5⟩ := q1
  have h1 : zR (d + 120) 127 0 [.ref 1, .int (C 100 0 (i + 1)), .int (C 100 0 (i + 2)), zmk, zmk] [] (zZ L, zI C, zPd p0 p2 r2 r3 s4) = some (some (.int v), (zZ L, zI C1, zPd b0 b2 b3 b4 b5)) := h1
  have h2 : zR (d + 120) 199 0 [.ref 201, .int (C 100 0 (i + 1)), .int (C 100 0 (i + 2)), zmk] [] (zZ L, zI C1, zPd b0 b2 b3 b4 b5) = some (some (.int v), (zZ L, zI C2, zPd b0 b2 b3 b4 b5)) := h2
  have e0 : ∀ k, C1 100 0 k = C 100 0 k := zLW_0 h1
  refine ⟨C2, (b0, b2, b3, b4, b5), ?_, hR2⟩
  have a1 : nI i + 1 = nI (i + 1) := nI_add i 1
  have a2 : nI i + 2 = nI (i + 2) := nI_add i 2
  simp +decide (disch := omega) only [e255_831, e255_845, e255_859, a1, a2, e0, h1, h2, List.cons_append, List.nil_append, zpre, ite_self, Nat.reduceAdd, zs1, zs2, zs3, zI_eqb, and_self, not_true_eq_false, if_true, if_false, ite_true, ite_false, not_false_eq_true, zBP, zBZ, zisO, zisA, zlen, decide_true, decide_false, Bool.and_self, Bool.and_true, Bool.true_and, cond_true, cond_false, zBG, zBR, zBU, zBV, zinb_n, zix_n, zlA, zlB, zlM, zlN, zlX, zlI, nI_add, Nat.add_eq_zero_iff, false_and, and_false, and_true, true_and, true_or, or_true, false_or, or_false, zbool_i, zb0, zb1, zshp_0, zcs_eq, zcs_n, zcs_cs, zup_g, zup_n, zg_srock2, zg_stug2, zg_ssun, zg_ssun0, zg_srock, zg_srock0, zg_stug, zg_stug0, zg_sord, zg_sord0, zg_srep, zg_srep0, zg_scla, zg_scla0, zg_scon, zg_scon0, zg_swin, zg_swin0, zg_sleg, zg_sleg0, zg_spro, zg_sstp, zg_swrd, zu_srock2, zu_stug2, zu_ssun, zu_ssun0, zu_srock, zu_srock0, zu_stug, zu_stug0, zu_sord, zu_sord0, zu_srep, zu_srep0, zu_scla, zu_scla0, zu_scon, zu_scon0, zu_swin, zu_swin0, zu_sleg, zu_sleg0, zu_spro, zu_sstp, zu_swrd]

theorem LW_18 (d L i : Nat) (C : zCt) (p0 p2 r2 r3 s4 : Nat) (hi : i + 7 ≤ L) (hL : L < 2147483648) (hR : zRep C) : ∃ (C' : zCt) (q : Nat × Nat × Nat × Nat × Nat), zR (d + 121) 255 864 [.ref 0, .ref 1, .ref 201, .int (nI i)] [] (zZ L, zI C, zPd p0 p2 r2 r3 s4) = zR (d + 121) 255 1546 [.ref 0, .ref 1, .ref 201, .int (nI i)] [] (zZ L, zI C', zPd q.1 q.2.1 q.2.2.1 q.2.2.2.1 q.2.2.2.2) ∧ zRep C' := by
  obtain ⟨v, C1, q1, h1, C2, h2, hR2, _⟩ := pr_run (d + 20) L C hR (C 100 0 (i + 1)) (p0, p2, r2, r3, s4)
  obtain ⟨b0, b2, b3, b4, b5⟩ := q1
  have h1 : zR (d + 120) 128 0 [.ref 1, .int (C 100 0 (i + 1)), zmk, zmk] [] (zZ L, zI C, zPd p0 p2 r2 r3 s4) = some (some (.int v), (zZ L, zI C1, zPd b0 b2 b3 b4 b5)) := h1
  have h2 : zR (d + 120) 203 0 [.ref 201, .int (C 100 0 (i + 1)), zmk] [] (zZ L, zI C1, zPd b0 b2 b3 b4 b5) = some (some (.int v), (zZ L, zI C2, zPd b0 b2 b3 b4 b5)) := h2
  have e0 : ∀ k, C1 100 0 k = C 100 0 k := zLW_0 h1
  refine ⟨C2, (b0, b2, b3, b4, b5), ?_, hR2⟩
  have a1 : nI i + 1 = nI (i + 1) := nI_add i 1
  simp +decide (disch := omega) only [e255_864, e255_873, e255_882, a1, e0, h1, h2, List.cons_append, List.nil_append, zpre, ite_self, Nat.reduceAdd, zs1, zs2, zs3, zI_eqb, and_self, not_true_eq_false, if_true, if_false, ite_true, ite_false, not_false_eq_true, zBP, zBZ, zisO, zisA, zlen, decide_true, decide_false, Bool.and_self, Bool.and_true, Bool.true_and, cond_true, cond_false, zBG, zBR, zBU, zBV, zinb_n, zix_n, zlA, zlB, zlM, zlN, zlX, zlI, nI_add, Nat.add_eq_zero_iff, false_and, and_false, and_true, true_and, true_or, or_true, false_or, or_false, zbool_i, zb0, zb1, zshp_0, zcs_eq, zcs_n, zcs_cs, zup_g, zup_n, zg_srock2, zg_stug2, zg_ssun, zg_ssun0, zg_srock, zg_srock0, zg_stug, zg_stug0, zg_sord, zg_sord0, zg_srep, zg_srep0, zg_scla, zg_scla0, zg_scon, zg_scon0, zg_swin, zg_swin0, zg_sleg, zg_sleg0, zg_spro, zg_sstp, zg_swrd, zu_srock2, zu_stug2, zu_ssun, zu_ssun0, zu_srock, zu_srock0, zu_stug, zu_stug0, zu_sord, zu_sord0, zu_srep, zu_srep0, zu_scla, zu_scla0, zu_scon, zu_scon0, zu_swin, zu_swin0, zu_sleg, zu_sleg0, zu_spro, zu_sstp, zu_swrd]

theorem LW_19 (d L i : Nat) (C : zCt) (p0 p2 r2 r3 s4 : Nat) (hi : i + 7 ≤ L) (hL : L < 2147483648) (hR : zRep C) : ∃ (C' : zCt) (q : Nat × Nat × Nat × Nat × Nat), zR (d + 121) 255 887 [.ref 0, .ref 1, .ref 201, .int (nI i)] [] (zZ L, zI C, zPd p0 p2 r2 r3 s4) = zR (d + 121) 255 1546 [.ref 0, .ref 1, .ref 201, .int (nI i)] [] (zZ L, zI C', zPd q.1 q.2.1 q.2.2.1 q.2.2.2.1 q.2.2.2.2) ∧ zRep C' := by
  obtain ⟨v, C1, q1, h1, C2, h2, hR2, _⟩ := pr_rule (d + 20) L C hR (C 100 0 (i + 1)) (C 100 0 (i + 2)) (p0, p2, r2, r3, s4)
  obtain ⟨b0, b2, b3, b4, b5⟩ := q1
  have h1 : zR (d + 120) 130 0 [.ref 1, .int (C 100 0 (i + 1)), .int (C 100 0 (i + 2)), zmk, zmk, zmk] [] (zZ L, zI C, zPd p0 p2 r2 r3 s4) = some (some (.int v), (zZ L, zI C1, zPd b0 b2 b3 b4 b5)) := h1
  have h2 : zR (d + 120) 231 0 [.ref 201, .int (C 100 0 (i + 1)), .int (C 100 0 (i + 2)), zmk] [] (zZ L, zI C1, zPd b0 b2 b3 b4 b5) = some (some (.int v), (zZ L, zI C2, zPd b0 b2 b3 b4 b5)) := h2
  have e0 : ∀ k, C1 100 0 k = C 100 0 k := zLW_0 h1
  refine ⟨C2, (b0, b2, b3, b4, b5), ?_, hR2⟩
  have a1 : nI i + 1 = nI (i + 1) := nI_add i 1
  have a2 : nI i + 2 = nI (i + 2) := nI_add i 2
  simp +decide (disch := omega) only [e255_887, e255_901, e255_915, a1, a2, e0, h1, h2, List.cons_append, List.nil_append, zpre, ite_self, Nat.reduceAdd, zs1, zs2, zs3, zI_eqb, and_self, not_true_eq_false, if_true, if_false, ite_true, ite_false, not_false_eq_true, zBP, zBZ, zisO, zisA, zlen, decide_true, decide_false, Bool.and_self, Bool.and_true, Bool.true_and, cond_true, cond_false, zBG, zBR, zBU, zBV, zinb_n, zix_n, zlA, zlB, zlM, zlN, zlX, zlI, nI_add, Nat.add_eq_zero_iff, false_and, and_false, and_true, true_and, true_or, or_true, false_or, or_false, zbool_i, zb0, zb1, zshp_0, zcs_eq, zcs_n, zcs_cs, zup_g, zup_n, zg_srock2, zg_stug2, zg_ssun, zg_ssun0, zg_srock, zg_srock0, zg_stug, zg_stug0, zg_sord, zg_sord0, zg_srep, zg_srep0, zg_scla, zg_scla0, zg_scon, zg_scon0, zg_swin, zg_swin0, zg_sleg, zg_sleg0, zg_spro, zg_sstp, zg_swrd, zu_srock2, zu_stug2, zu_ssun, zu_ssun0, zu_srock, zu_srock0, zu_stug, zu_stug0, zu_sord, zu_sord0, zu_srep, zu_srep0, zu_scla, zu_scla0, zu_scon, zu_scon0, zu_swin, zu_swin0, zu_sleg, zu_sleg0, zu_spro, zu_sstp, zu_swrd]

theorem LW_20 (d L i : Nat) (C : zCt) (p0 p2 r2 r3 s4 : Nat) (hi : i + 7 ≤ L) (hL : L < 2147483648) (hR : zRep C) : ∃ (C' : zCt) (q : Nat × Nat × Nat × Nat × Nat), zR (d + 121) 255 920 [.ref 0, .ref 1, .ref 201, .int (nI i)] [] (zZ L, zI C, zPd p0 p2 r2 r3 s4) = zR (d + 121) 255 1546 [.ref 0, .ref 1, .ref 201, .int (nI i)] [] (zZ L, zI C', zPd q.1 q.2.1 q.2.2.1 q.2.2.2.1 q.2.2.2.2) ∧ zRep C' := by
  obtain ⟨v, C1, q1, h1, C2, h2, hR2, _⟩ := pr_known (d + 20) L C hR (C 100 0 (i + 1)) (C 100 0 (i + 2)) (p0, p2, r2, r3, s4)
  obtain ⟨b0, b2, b3, b4, b5⟩ := q1
  have h1 : zR (d + 120) 131 0 [.ref 1, .int (C 100 0 (i + 1)), .int (C 100 0 (i + 2)), zmk] [] (zZ L, zI C, zPd p0 p2 r2 r3 s4) = some (some (.int v), (zZ L, zI C1, zPd b0 b2 b3 b4 b5)) := h1
  have h2 : zR (d + 120) 232 0 [.ref 201, .int (C 100 0 (i + 1)), .int (C 100 0 (i + 2))] [] (zZ L, zI C1, zPd b0 b2 b3 b4 b5) = some (some (.int v), (zZ L, zI C2, zPd b0 b2 b3 b4 b5)) := h2
  have e0 : ∀ k, C1 100 0 k = C 100 0 k := zLW_0 h1
  refine ⟨C2, (b0, b2, b3, b4, b5), ?_, hR2⟩
  have a1 : nI i + 1 = nI (i + 1) := nI_add i 1
  have a2 : nI i + 2 = nI (i + 2) := nI_add i 2
  simp +decide (disch := omega) only [e255_920, e255_934, e255_948, a1, a2, e0, h1, h2, List.cons_append, List.nil_append, zpre, ite_self, Nat.reduceAdd, zs1, zs2, zs3, zI_eqb, and_self, not_true_eq_false, if_true, if_false, ite_true, ite_false, not_false_eq_true, zBP, zBZ, zisO, zisA, zlen, decide_true, decide_false, Bool.and_self, Bool.and_true, Bool.true_and, cond_true, cond_false, zBG, zBR, zBU, zBV, zinb_n, zix_n, zlA, zlB, zlM, zlN, zlX, zlI, nI_add, Nat.add_eq_zero_iff, false_and, and_false, and_true, true_and, true_or, or_true, false_or, or_false, zbool_i, zb0, zb1, zshp_0, zcs_eq, zcs_n, zcs_cs, zup_g, zup_n, zg_srock2, zg_stug2, zg_ssun, zg_ssun0, zg_srock, zg_srock0, zg_stug, zg_stug0, zg_sord, zg_sord0, zg_srep, zg_srep0, zg_scla, zg_scla0, zg_scon, zg_scon0, zg_swin, zg_swin0, zg_sleg, zg_sleg0, zg_spro, zg_sstp, zg_swrd, zu_srock2, zu_stug2, zu_ssun, zu_ssun0, zu_srock, zu_srock0, zu_stug, zu_stug0, zu_sord, zu_sord0, zu_srep, zu_srep0, zu_scla, zu_scla0, zu_scon, zu_scon0, zu_swin, zu_swin0, zu_sleg, zu_sleg0, zu_spro, zu_sstp, zu_swrd]

theorem LW_21 (d L i : Nat) (C : zCt) (p0 p2 r2 r3 s4 : Nat) (hi : i + 7 ≤ L) (hL : L < 2147483648) (hR : zRep C) : ∃ (C' : zCt) (q : Nat × Nat × Nat × Nat × Nat), zR (d + 121) 255 953 [.ref 0, .ref 1, .ref 201, .int (nI i)] [] (zZ L, zI C, zPd p0 p2 r2 r3 s4) = zR (d + 121) 255 1546 [.ref 0, .ref 1, .ref 201, .int (nI i)] [] (zZ L, zI C', zPd q.1 q.2.1 q.2.2.1 q.2.2.2.1 q.2.2.2.2) ∧ zRep C' := by
  obtain ⟨v, C1, q1, h1, C2, h2, hR2, _⟩ := pr_patch (d + 20) L C hR (C 100 0 (i + 1)) (C 100 0 (i + 2)) (p0, p2, r2, r3, s4)
  obtain ⟨b0, b2, b3, b4, b5⟩ := q1
  have h1 : zR (d + 120) 132 0 [.ref 1, .int (C 100 0 (i + 1)), .int (C 100 0 (i + 2)), zmk, zmk, zmk] [] (zZ L, zI C, zPd p0 p2 r2 r3 s4) = some (some (.int v), (zZ L, zI C1, zPd b0 b2 b3 b4 b5)) := h1
  have h2 : zR (d + 120) 233 0 [.ref 201, .int (C 100 0 (i + 1)), .int (C 100 0 (i + 2)), zmk, zmk, zmk, zmk, zmk, zmk, zmk, zmk, zmk] [] (zZ L, zI C1, zPd b0 b2 b3 b4 b5) = some (some (.int v), (zZ L, zI C2, zPd b0 b2 b3 b4 b5)) := h2
  have e0 : ∀ k, C1 100 0 k = C 100 0 k := zLW_0 h1
  refine ⟨C2, (b0, b2, b3, b4, b5), ?_, hR2⟩
  have a1 : nI i + 1 = nI (i + 1) := nI_add i 1
  have a2 : nI i + 2 = nI (i + 2) := nI_add i 2
  simp +decide (disch := omega) only [e255_953, e255_967, e255_981, a1, a2, e0, h1, h2, List.cons_append, List.nil_append, zpre, ite_self, Nat.reduceAdd, zs1, zs2, zs3, zI_eqb, and_self, not_true_eq_false, if_true, if_false, ite_true, ite_false, not_false_eq_true, zBP, zBZ, zisO, zisA, zlen, decide_true, decide_false, Bool.and_self, Bool.and_true, Bool.true_and, cond_true, cond_false, zBG, zBR, zBU, zBV, zinb_n, zix_n, zlA, zlB, zlM, zlN, zlX, zlI, nI_add, Nat.add_eq_zero_iff, false_and, and_false, and_true, true_and, true_or, or_true, false_or, or_false, zbool_i, zb0, zb1, zshp_0, zcs_eq, zcs_n, zcs_cs, zup_g, zup_n, zg_srock2, zg_stug2, zg_ssun, zg_ssun0, zg_srock, zg_srock0, zg_stug, zg_stug0, zg_sord, zg_sord0, zg_srep, zg_srep0, zg_scla, zg_scla0, zg_scon, zg_scon0, zg_swin, zg_swin0, zg_sleg, zg_sleg0, zg_spro, zg_sstp, zg_swrd, zu_srock2, zu_stug2, zu_ssun, zu_ssun0, zu_srock, zu_srock0, zu_stug, zu_stug0, zu_sord, zu_sord0, zu_srep, zu_srep0, zu_scla, zu_scla0, zu_scon, zu_scon0, zu_swin, zu_swin0, zu_sleg, zu_sleg0, zu_spro, zu_sstp, zu_swrd]

theorem LW_22 (d L i : Nat) (C : zCt) (p0 p2 r2 r3 s4 : Nat) (hi : i + 7 ≤ L) (hL : L < 2147483648) (hR : zRep C) : ∃ (C' : zCt) (q : Nat × Nat × Nat × Nat × Nat), zR (d + 121) 255 986 [.ref 0, .ref 1, .ref 201, .int (nI i)] [] (zZ L, zI C, zPd p0 p2 r2 r3 s4) = zR (d + 121) 255 1546 [.ref 0, .ref 1, .ref 201, .int (nI i)] [] (zZ L, zI C', zPd q.1 q.2.1 q.2.2.1 q.2.2.2.1 q.2.2.2.2) ∧ zRep C' := by
  obtain ⟨v, C1, q1, h1, C2, h2, hR2, _⟩ := pr_miss (d + 20) L C hR (C 100 0 (i + 1)) (C 100 0 (i + 2)) (C 100 0 (i + 3)) (C 100 0 (i + 4)) (p0, p2, r2, r3, s4)
  obtain ⟨b0, b2, b3, b4, b5⟩ := q1
  have h1 : zR (d + 120) 133 0 [.ref 1, .int (C 100 0 (i + 1)), .int (C 100 0 (i + 2)), .int (C 100 0 (i + 3)), .int (C 100 0 (i + 4)), zmk, zmk, zmk, zmk] [] (zZ L, zI C, zPd p0 p2 r2 r3 s4) = some (some (.int v), (zZ L, zI C1, zPd b0 b2 b3 b4 b5)) := h1
  have h2 : zR (d + 120) 234 0 [.ref 201, .int (C 100 0 (i + 1)), .int (C 100 0 (i + 2)), .int (C 100 0 (i + 3)), .int (C 100 0 (i + 4)), zmk, zmk, zmk, zmk, zmk, zmk] [] (zZ L, zI C1, zPd b0 b2 b3 b4 b5) = some (some (.int v), (zZ L, zI C2, zPd b0 b2 b3 b4 b5)) := h2
  have e0 : ∀ k, C1 100 0 k = C 100 0 k := zLW_0 h1
  refine ⟨C2, (b0, b2, b3, b4, b5), ?_, hR2⟩
  have a1 : nI i + 1 = nI (i + 1) := nI_add i 1
  have a2 : nI i + 2 = nI (i + 2) := nI_add i 2
  have a3 : nI i + 3 = nI (i + 3) := nI_add i 3
  have a4 : nI i + 4 = nI (i + 4) := nI_add i 4
  simp +decide (disch := omega) only [e255_986, e255_1010, e255_1034, a1, a2, a3, a4, e0, h1, h2, List.cons_append, List.nil_append, zpre, ite_self, Nat.reduceAdd, zs1, zs2, zs3, zI_eqb, and_self, not_true_eq_false, if_true, if_false, ite_true, ite_false, not_false_eq_true, zBP, zBZ, zisO, zisA, zlen, decide_true, decide_false, Bool.and_self, Bool.and_true, Bool.true_and, cond_true, cond_false, zBG, zBR, zBU, zBV, zinb_n, zix_n, zlA, zlB, zlM, zlN, zlX, zlI, nI_add, Nat.add_eq_zero_iff, false_and, and_false, and_true, true_and, true_or, or_true, false_or, or_false, zbool_i, zb0, zb1, zshp_0, zcs_eq, zcs_n, zcs_cs, zup_g, zup_n, zg_srock2, zg_stug2, zg_ssun, zg_ssun0, zg_srock, zg_srock0, zg_stug, zg_stug0, zg_sord, zg_sord0, zg_srep, zg_srep0, zg_scla, zg_scla0, zg_scon, zg_scon0, zg_swin, zg_swin0, zg_sleg, zg_sleg0, zg_spro, zg_sstp, zg_swrd, zu_srock2, zu_stug2, zu_ssun, zu_ssun0, zu_srock, zu_srock0, zu_stug, zu_stug0, zu_sord, zu_sord0, zu_srep, zu_srep0, zu_scla, zu_scla0, zu_scon, zu_scon0, zu_swin, zu_swin0, zu_sleg, zu_sleg0, zu_spro, zu_sstp, zu_swrd]

theorem LW_23 (d L i : Nat) (C : zCt) (p0 p2 r2 r3 s4 : Nat) (hi : i + 7 ≤ L) (hL : L < 2147483648) (hR : zRep C) : ∃ (C' : zCt) (q : Nat × Nat × Nat × Nat × Nat), zR (d + 121) 255 1039 [.ref 0, .ref 1, .ref 201, .int (nI i)] [] (zZ L, zI C, zPd p0 p2 r2 r3 s4) = zR (d + 121) 255 1546 [.ref 0, .ref 1, .ref 201, .int (nI i)] [] (zZ L, zI C', zPd q.1 q.2.1 q.2.2.1 q.2.2.2.1 q.2.2.2.2) ∧ zRep C' := by
  obtain ⟨v, C1, q1, h1, C2, h2, hR2, _⟩ := pr_contract (d + 20) L C hR (C 100 0 (i + 1)) (C 100 0 (i + 2)) (C 100 0 (i + 3)) (C 100 0 (i + 4)) (C 100 0 (i + 5)) (p0, p2, r2, r3, s4)
  obtain ⟨b0, b2, b3, b4, b5⟩ := q1
  have h1 : zR (d + 120) 136 0 [.ref 1, .int (C 100 0 (i + 1)), .int (C 100 0 (i + 2)), .int (C 100 0 (i + 3)), .int (C 100 0 (i + 4)), .int (C 100 0 (i + 5))] [] (zZ L, zI C, zPd p0 p2 r2 r3 s4) = some (some (.int v), (zZ L, zI C1, zPd b0 b2 b3 b4 b5)) := h1
  have h2 : zR (d + 120) 237 0 [.ref 201, .int (C 100 0 (i + 1)), .int (C 100 0 (i + 2)), .int (C 100 0 (i + 3)), .int (C 100 0 (i + 4)), .int (C 100 0 (i + 5)), zmk] [] (zZ L, zI C1, zPd b0 b2 b3 b4 b5) = some (some (.int v), (zZ L, zI C2, zPd b0 b2 b3 b4 b5)) := h2
  have e0 : ∀ k, C1 100 0 k = C 100 0 k := zLW_0 h1
  refine ⟨C2, (b0, b2, b3, b4, b5), ?_, hR2⟩
  have a1 : nI i + 1 = nI (i + 1) := nI_add i 1
  have a2 : nI i + 2 = nI (i + 2) := nI_add i 2
  have a3 : nI i + 3 = nI (i + 3) := nI_add i 3
  have a4 : nI i + 4 = nI (i + 4) := nI_add i 4
  have a5 : nI i + 5 = nI (i + 5) := nI_add i 5
  simp +decide (disch := omega) only [e255_1039, e255_1068, e255_1097, a1, a2, a3, a4, a5, e0, h1, h2, List.cons_append, List.nil_append, zpre, ite_self, Nat.reduceAdd, zs1, zs2, zs3, zI_eqb, and_self, not_true_eq_false, if_true, if_false, ite_true, ite_false, not_false_eq_true, zBP, zBZ, zisO, zisA, zlen, decide_true, decide_false, Bool.and_self, Bool.and_true, Bool.true_and, cond_true, cond_false, zBG, zBR, zBU, zBV, zinb_n, zix_n, zlA, zlB, zlM, zlN, zlX, zlI, nI_add, Nat.add_eq_zero_iff, false_and, and_false, and_true, true_and, true_or, or_true, false_or, or_false, zbool_i, zb0, zb1, zshp_0, zcs_eq, zcs_n, zcs_cs, zup_g, zup_n, zg_srock2, zg_stug2, zg_ssun, zg_ssun0, zg_srock, zg_srock0, zg_stug, zg_stug0, zg_sord, zg_sord0, zg_srep, zg_srep0, zg_scla, zg_scla0, zg_scon, zg_scon0, zg_swin, zg_swin0, zg_sleg, zg_sleg0, zg_spro, zg_sstp, zg_swrd, zu_srock2, zu_stug2, zu_ssun, zu_ssun0, zu_srock, zu_srock0, zu_stug, zu_stug0, zu_sord, zu_sord0, zu_srep, zu_srep0, zu_scla, zu_scla0, zu_scon, zu_scon0, zu_swin, zu_swin0, zu_sleg, zu_sleg0, zu_spro, zu_sstp, zu_swrd]

theorem LW_24 (d L i : Nat) (C : zCt) (p0 p2 r2 r3 s4 : Nat) (hi : i + 7 ≤ L) (hL : L < 2147483648) (hR : zRep C) : ∃ (C' : zCt) (q : Nat × Nat × Nat × Nat × Nat), zR (d + 121) 255 1102 [.ref 0, .ref 1, .ref 201, .int (nI i)] [] (zZ L, zI C, zPd p0 p2 r2 r3 s4) = zR (d + 121) 255 1546 [.ref 0, .ref 1, .ref 201, .int (nI i)] [] (zZ L, zI C', zPd q.1 q.2.1 q.2.2.1 q.2.2.2.1 q.2.2.2.2) ∧ zRep C' := by
  obtain ⟨v, C1, q1, h1, C2, h2, hR2, _⟩ := pr_about (d + 20) L C hR (C 100 0 (i + 1)) (C 100 0 (i + 2)) (p0, p2, r2, r3, s4)
  obtain ⟨b0, b2, b3, b4, b5⟩ := q1
  have h1 : zR (d + 120) 137 0 [.ref 1, .int (C 100 0 (i + 1)), .int (C 100 0 (i + 2)), zmk] [] (zZ L, zI C, zPd p0 p2 r2 r3 s4) = some (some (.int v), (zZ L, zI C1, zPd b0 b2 b3 b4 b5)) := h1
  have h2 : zR (d + 120) 238 0 [.ref 201, .int (C 100 0 (i + 1)), .int (C 100 0 (i + 2)), zmk] [] (zZ L, zI C1, zPd b0 b2 b3 b4 b5) = some (some (.int v), (zZ L, zI C2, zPd b0 b2 b3 b4 b5)) := h2
  have e0 : ∀ k, C1 100 0 k = C 100 0 k := zLW_0 h1
  refine ⟨C2, (b0, b2, b3, b4, b5), ?_, hR2⟩
  have a1 : nI i + 1 = nI (i + 1) := nI_add i 1
  have a2 : nI i + 2 = nI (i + 2) := nI_add i 2
  simp +decide (disch := omega) only [e255_1102, e255_1116, e255_1130, a1, a2, e0, h1, h2, List.cons_append, List.nil_append, zpre, ite_self, Nat.reduceAdd, zs1, zs2, zs3, zI_eqb, and_self, not_true_eq_false, if_true, if_false, ite_true, ite_false, not_false_eq_true, zBP, zBZ, zisO, zisA, zlen, decide_true, decide_false, Bool.and_self, Bool.and_true, Bool.true_and, cond_true, cond_false, zBG, zBR, zBU, zBV, zinb_n, zix_n, zlA, zlB, zlM, zlN, zlX, zlI, nI_add, Nat.add_eq_zero_iff, false_and, and_false, and_true, true_and, true_or, or_true, false_or, or_false, zbool_i, zb0, zb1, zshp_0, zcs_eq, zcs_n, zcs_cs, zup_g, zup_n, zg_srock2, zg_stug2, zg_ssun, zg_ssun0, zg_srock, zg_srock0, zg_stug, zg_stug0, zg_sord, zg_sord0, zg_srep, zg_srep0, zg_scla, zg_scla0, zg_scon, zg_scon0, zg_swin, zg_swin0, zg_sleg, zg_sleg0, zg_spro, zg_sstp, zg_swrd, zu_srock2, zu_stug2, zu_ssun, zu_ssun0, zu_srock, zu_srock0, zu_stug, zu_stug0, zu_sord, zu_sord0, zu_srep, zu_srep0, zu_scla, zu_scla0, zu_scon, zu_scon0, zu_swin, zu_swin0, zu_sleg, zu_sleg0, zu_spro, zu_sstp, zu_swrd]

theorem LW_25 (d L i : Nat) (C : zCt) (p0 p2 r2 r3 s4 : Nat) (hi : i + 7 ≤ L) (hL : L < 2147483648) (hR : zRep C) : ∃ (C' : zCt) (q : Nat × Nat × Nat × Nat × Nat), zR (d + 121) 255 1135 [.ref 0, .ref 1, .ref 201, .int (nI i)] [] (zZ L, zI C, zPd p0 p2 r2 r3 s4) = zR (d + 121) 255 1546 [.ref 0, .ref 1, .ref 201, .int (nI i)] [] (zZ L, zI C', zPd q.1 q.2.1 q.2.2.1 q.2.2.2.1 q.2.2.2.2) ∧ zRep C' := by
  obtain ⟨v, C1, q1, h1, C2, h2, hR2, _⟩ := pr_paid (d + 20) L C hR  (p0, p2, r2, r3, s4)
  obtain ⟨b0, b2, b3, b4, b5⟩ := q1
  have h1 : zR (d + 120) 138 0 [.ref 1, zmk, zmk] [] (zZ L, zI C, zPd p0 p2 r2 r3 s4) = some (some (.int v), (zZ L, zI C1, zPd b0 b2 b3 b4 b5)) := h1
  have h2 : zR (d + 120) 239 0 [.ref 201, zmk, zmk] [] (zZ L, zI C1, zPd b0 b2 b3 b4 b5) = some (some (.int v), (zZ L, zI C2, zPd b0 b2 b3 b4 b5)) := h2
  have e0 : ∀ k, C1 100 0 k = C 100 0 k := zLW_0 h1
  refine ⟨C2, (b0, b2, b3, b4, b5), ?_, hR2⟩
  simp +decide (disch := omega) only [e255_1135, e255_1139, e255_1143, e0, h1, h2, List.cons_append, List.nil_append, zpre, ite_self, Nat.reduceAdd, zs1, zs2, zs3, zI_eqb, and_self, not_true_eq_false, if_true, if_false, ite_true, ite_false, not_false_eq_true, zBP, zBZ, zisO, zisA, zlen, decide_true, decide_false, Bool.and_self, Bool.and_true, Bool.true_and, cond_true, cond_false, zBG, zBR, zBU, zBV, zinb_n, zix_n, zlA, zlB, zlM, zlN, zlX, zlI, nI_add, Nat.add_eq_zero_iff, false_and, and_false, and_true, true_and, true_or, or_true, false_or, or_false, zbool_i, zb0, zb1, zshp_0, zcs_eq, zcs_n, zcs_cs, zup_g, zup_n, zg_srock2, zg_stug2, zg_ssun, zg_ssun0, zg_srock, zg_srock0, zg_stug, zg_stug0, zg_sord, zg_sord0, zg_srep, zg_srep0, zg_scla, zg_scla0, zg_scon, zg_scon0, zg_swin, zg_swin0, zg_sleg, zg_sleg0, zg_spro, zg_sstp, zg_swrd, zu_srock2, zu_stug2, zu_ssun, zu_ssun0, zu_srock, zu_srock0, zu_stug, zu_stug0, zu_sord, zu_sord0, zu_srep, zu_srep0, zu_scla, zu_scla0, zu_scon, zu_scon0, zu_swin, zu_swin0, zu_sleg, zu_sleg0, zu_spro, zu_sstp, zu_swrd]

theorem LW_26 (d L i : Nat) (C : zCt) (p0 p2 r2 r3 s4 : Nat) (hi : i + 7 ≤ L) (hL : L < 2147483648) (hR : zRep C) : ∃ (C' : zCt) (q : Nat × Nat × Nat × Nat × Nat), zR (d + 121) 255 1148 [.ref 0, .ref 1, .ref 201, .int (nI i)] [] (zZ L, zI C, zPd p0 p2 r2 r3 s4) = zR (d + 121) 255 1546 [.ref 0, .ref 1, .ref 201, .int (nI i)] [] (zZ L, zI C', zPd q.1 q.2.1 q.2.2.1 q.2.2.2.1 q.2.2.2.2) ∧ zRep C' := by
  obtain ⟨v, C1, q1, h1, C2, h2, hR2, _⟩ := pr_window (d + 20) L C hR (C 100 0 (i + 1)) (C 100 0 (i + 2)) (C 100 0 (i + 3)) (C 100 0 (i + 4)) (C 100 0 (i + 5)) (C 100 0 (i + 6)) (p0, p2, r2, r3, s4)
  obtain ⟨b0, b2, b3, b4, b5⟩ := q1
  have h1 : zR (d + 120) 139 0 [.ref 1, .int (C 100 0 (i + 1)), .int (C 100 0 (i + 2)), .int (C 100 0 (i + 3)), .int (C 100 0 (i + 4)), .int (C 100 0 (i + 5)), .int (C 100 0 (i + 6)), zmk] [] (zZ L, zI C, zPd p0 p2 r2 r3 s4) = some (some (.int v), (zZ L, zI C1, zPd b0 b2 b3 b4 b5)) := h1
  have h2 : zR (d + 120) 240 0 [.ref 201, .int (C 100 0 (i + 1)), .int (C 100 0 (i + 2)), .int (C 100 0 (i + 3)), .int (C 100 0 (i + 4)), .int (C 100 0 (i + 5)), .int (C 100 0 (i + 6)), zmk] [] (zZ L, zI C1, zPd b0 b2 b3 b4 b5) = some (some (.int v), (zZ L, zI C2, zPd b0 b2 b3 b4 b5)) := h2
  have e0 : ∀ k, C1 100 0 k = C 100 0 k := zLW_0 h1
  refine ⟨C2, (b0, b2, b3, b4, b5), ?_, hR2⟩
  have a1 : nI i + 1 = nI (i + 1) := nI_add i 1
  have a2 : nI i + 2 = nI (i + 2) := nI_add i 2
  have a3 : nI i + 3 = nI (i + 3) := nI_add i 3
  have a4 : nI i + 4 = nI (i + 4) := nI_add i 4
  have a5 : nI i + 5 = nI (i + 5) := nI_add i 5
  have a6 : nI i + 6 = nI (i + 6) := nI_add i 6
  simp +decide (disch := omega) only [e255_1148, e255_1183, e255_1218, a1, a2, a3, a4, a5, a6, e0, h1, h2, List.cons_append, List.nil_append, zpre, ite_self, Nat.reduceAdd, zs1, zs2, zs3, zI_eqb, and_self, not_true_eq_false, if_true, if_false, ite_true, ite_false, not_false_eq_true, zBP, zBZ, zisO, zisA, zlen, decide_true, decide_false, Bool.and_self, Bool.and_true, Bool.true_and, cond_true, cond_false, zBG, zBR, zBU, zBV, zinb_n, zix_n, zlA, zlB, zlM, zlN, zlX, zlI, nI_add, Nat.add_eq_zero_iff, false_and, and_false, and_true, true_and, true_or, or_true, false_or, or_false, zbool_i, zb0, zb1, zshp_0, zcs_eq, zcs_n, zcs_cs, zup_g, zup_n, zg_srock2, zg_stug2, zg_ssun, zg_ssun0, zg_srock, zg_srock0, zg_stug, zg_stug0, zg_sord, zg_sord0, zg_srep, zg_srep0, zg_scla, zg_scla0, zg_scon, zg_scon0, zg_swin, zg_swin0, zg_sleg, zg_sleg0, zg_spro, zg_sstp, zg_swrd, zu_srock2, zu_stug2, zu_ssun, zu_ssun0, zu_srock, zu_srock0, zu_stug, zu_stug0, zu_sord, zu_sord0, zu_srep, zu_srep0, zu_scla, zu_scla0, zu_scon, zu_scon0, zu_swin, zu_swin0, zu_sleg, zu_sleg0, zu_spro, zu_sstp, zu_swrd]

theorem LW_27 (d L i : Nat) (C : zCt) (p0 p2 r2 r3 s4 : Nat) (hi : i + 7 ≤ L) (hL : L < 2147483648) (hR : zRep C) : ∃ (C' : zCt) (q : Nat × Nat × Nat × Nat × Nat), zR (d + 121) 255 1223 [.ref 0, .ref 1, .ref 201, .int (nI i)] [] (zZ L, zI C, zPd p0 p2 r2 r3 s4) = zR (d + 121) 255 1546 [.ref 0, .ref 1, .ref 201, .int (nI i)] [] (zZ L, zI C', zPd q.1 q.2.1 q.2.2.1 q.2.2.2.1 q.2.2.2.2) ∧ zRep C' := by
  obtain ⟨v, C1, q1, h1, C2, h2, hR2, _⟩ := pr_shut (d + 20) L C hR  (p0, p2, r2, r3, s4)
  obtain ⟨b0, b2, b3, b4, b5⟩ := q1
  have h1 : zR (d + 120) 140 0 [.ref 1, zmk] [] (zZ L, zI C, zPd p0 p2 r2 r3 s4) = some (some (.int v), (zZ L, zI C1, zPd b0 b2 b3 b4 b5)) := h1
  have h2 : zR (d + 120) 241 0 [.ref 201, zmk] [] (zZ L, zI C1, zPd b0 b2 b3 b4 b5) = some (some (.int v), (zZ L, zI C2, zPd b0 b2 b3 b4 b5)) := h2
  have e0 : ∀ k, C1 100 0 k = C 100 0 k := zLW_0 h1
  refine ⟨C2, (b0, b2, b3, b4, b5), ?_, hR2⟩
  simp +decide (disch := omega) only [e255_1223, e255_1227, e255_1231, e0, h1, h2, List.cons_append, List.nil_append, zpre, ite_self, Nat.reduceAdd, zs1, zs2, zs3, zI_eqb, and_self, not_true_eq_false, if_true, if_false, ite_true, ite_false, not_false_eq_true, zBP, zBZ, zisO, zisA, zlen, decide_true, decide_false, Bool.and_self, Bool.and_true, Bool.true_and, cond_true, cond_false, zBG, zBR, zBU, zBV, zinb_n, zix_n, zlA, zlB, zlM, zlN, zlX, zlI, nI_add, Nat.add_eq_zero_iff, false_and, and_false, and_true, true_and, true_or, or_true, false_or, or_false, zbool_i, zb0, zb1, zshp_0, zcs_eq, zcs_n, zcs_cs, zup_g, zup_n, zg_srock2, zg_stug2, zg_ssun, zg_ssun0, zg_srock, zg_srock0, zg_stug, zg_stug0, zg_sord, zg_sord0, zg_srep, zg_srep0, zg_scla, zg_scla0, zg_scon, zg_scon0, zg_swin, zg_swin0, zg_sleg, zg_sleg0, zg_spro, zg_sstp, zg_swrd, zu_srock2, zu_stug2, zu_ssun, zu_ssun0, zu_srock, zu_srock0, zu_stug, zu_stug0, zu_sord, zu_sord0, zu_srep, zu_srep0, zu_scla, zu_scla0, zu_scon, zu_scon0, zu_swin, zu_swin0, zu_sleg, zu_sleg0, zu_spro, zu_sstp, zu_swrd]

theorem LW_28 (d L i : Nat) (C : zCt) (p0 p2 r2 r3 s4 : Nat) (hi : i + 7 ≤ L) (hL : L < 2147483648) (hR : zRep C) : ∃ (C' : zCt) (q : Nat × Nat × Nat × Nat × Nat), zR (d + 121) 255 1236 [.ref 0, .ref 1, .ref 201, .int (nI i)] [] (zZ L, zI C, zPd p0 p2 r2 r3 s4) = zR (d + 121) 255 1546 [.ref 0, .ref 1, .ref 201, .int (nI i)] [] (zZ L, zI C', zPd q.1 q.2.1 q.2.2.1 q.2.2.2.1 q.2.2.2.2) ∧ zRep C' := by
  obtain ⟨v, C1, q1, h1, C2, h2, hR2, _⟩ := pr_tour (d + 20) L C hR (C 100 0 (i + 1)) (C 100 0 (i + 2)) (C 100 0 (i + 3)) (C 100 0 (i + 4)) (C 100 0 (i + 5)) (p0, p2, r2, r3, s4)
  obtain ⟨b0, b2, b3, b4, b5⟩ := q1
  have h1 : zR (d + 120) 141 0 [.ref 1, .int (C 100 0 (i + 1)), .int (C 100 0 (i + 2)), .int (C 100 0 (i + 3)), .int (C 100 0 (i + 4)), .int (C 100 0 (i + 5))] [] (zZ L, zI C, zPd p0 p2 r2 r3 s4) = some (some (.int v), (zZ L, zI C1, zPd b0 b2 b3 b4 b5)) := h1
  have h2 : zR (d + 120) 242 0 [.ref 201, .int (C 100 0 (i + 1)), .int (C 100 0 (i + 2)), .int (C 100 0 (i + 3)), .int (C 100 0 (i + 4)), .int (C 100 0 (i + 5)), zmk, zmk, zmk] [] (zZ L, zI C1, zPd b0 b2 b3 b4 b5) = some (some (.int v), (zZ L, zI C2, zPd b0 b2 b3 b4 b5)) := h2
  have e0 : ∀ k, C1 100 0 k = C 100 0 k := zLW_0 h1
  refine ⟨C2, (b0, b2, b3, b4, b5), ?_, hR2⟩
  have a1 : nI i + 1 = nI (i + 1) := nI_add i 1
  have a2 : nI i + 2 = nI (i + 2) := nI_add i 2
  have a3 : nI i + 3 = nI (i + 3) := nI_add i 3
  have a4 : nI i + 4 = nI (i + 4) := nI_add i 4
  have a5 : nI i + 5 = nI (i + 5) := nI_add i 5
  simp +decide (disch := omega) only [e255_1236, e255_1265, e255_1294, a1, a2, a3, a4, a5, e0, h1, h2, List.cons_append, List.nil_append, zpre, ite_self, Nat.reduceAdd, zs1, zs2, zs3, zI_eqb, and_self, not_true_eq_false, if_true, if_false, ite_true, ite_false, not_false_eq_true, zBP, zBZ, zisO, zisA, zlen, decide_true, decide_false, Bool.and_self, Bool.and_true, Bool.true_and, cond_true, cond_false, zBG, zBR, zBU, zBV, zinb_n, zix_n, zlA, zlB, zlM, zlN, zlX, zlI, nI_add, Nat.add_eq_zero_iff, false_and, and_false, and_true, true_and, true_or, or_true, false_or, or_false, zbool_i, zb0, zb1, zshp_0, zcs_eq, zcs_n, zcs_cs, zup_g, zup_n, zg_srock2, zg_stug2, zg_ssun, zg_ssun0, zg_srock, zg_srock0, zg_stug, zg_stug0, zg_sord, zg_sord0, zg_srep, zg_srep0, zg_scla, zg_scla0, zg_scon, zg_scon0, zg_swin, zg_swin0, zg_sleg, zg_sleg0, zg_spro, zg_sstp, zg_swrd, zu_srock2, zu_stug2, zu_ssun, zu_ssun0, zu_srock, zu_srock0, zu_stug, zu_stug0, zu_sord, zu_sord0, zu_srep, zu_srep0, zu_scla, zu_scla0, zu_scon, zu_scon0, zu_swin, zu_swin0, zu_sleg, zu_sleg0, zu_spro, zu_sstp, zu_swrd]

theorem LW_29 (d L i : Nat) (C : zCt) (p0 p2 r2 r3 s4 : Nat) (hi : i + 7 ≤ L) (hL : L < 2147483648) (hR : zRep C) : ∃ (C' : zCt) (q : Nat × Nat × Nat × Nat × Nat), zR (d + 121) 255 1299 [.ref 0, .ref 1, .ref 201, .int (nI i)] [] (zZ L, zI C, zPd p0 p2 r2 r3 s4) = zR (d + 121) 255 1546 [.ref 0, .ref 1, .ref 201, .int (nI i)] [] (zZ L, zI C', zPd q.1 q.2.1 q.2.2.1 q.2.2.2.1 q.2.2.2.2) ∧ zRep C' := by
  obtain ⟨v, C1, q1, h1, C2, h2, hR2, _⟩ := pr_leg (d + 20) L C hR (C 100 0 (i + 1)) (p0, p2, r2, r3, s4)
  obtain ⟨b0, b2, b3, b4, b5⟩ := q1
  have h1 : zR (d + 120) 142 0 [.ref 1, .int (C 100 0 (i + 1))] [] (zZ L, zI C, zPd p0 p2 r2 r3 s4) = some (some (.int v), (zZ L, zI C1, zPd b0 b2 b3 b4 b5)) := h1
  have h2 : zR (d + 120) 246 0 [.ref 201, .int (C 100 0 (i + 1))] [] (zZ L, zI C1, zPd b0 b2 b3 b4 b5) = some (some (.int v), (zZ L, zI C2, zPd b0 b2 b3 b4 b5)) := h2
  have e0 : ∀ k, C1 100 0 k = C 100 0 k := zLW_0 h1
  refine ⟨C2, (b0, b2, b3, b4, b5), ?_, hR2⟩
  have a1 : nI i + 1 = nI (i + 1) := nI_add i 1
  simp +decide (disch := omega) only [e255_1299, e255_1308, e255_1317, a1, e0, h1, h2, List.cons_append, List.nil_append, zpre, ite_self, Nat.reduceAdd, zs1, zs2, zs3, zI_eqb, and_self, not_true_eq_false, if_true, if_false, ite_true, ite_false, not_false_eq_true, zBP, zBZ, zisO, zisA, zlen, decide_true, decide_false, Bool.and_self, Bool.and_true, Bool.true_and, cond_true, cond_false, zBG, zBR, zBU, zBV, zinb_n, zix_n, zlA, zlB, zlM, zlN, zlX, zlI, nI_add, Nat.add_eq_zero_iff, false_and, and_false, and_true, true_and, true_or, or_true, false_or, or_false, zbool_i, zb0, zb1, zshp_0, zcs_eq, zcs_n, zcs_cs, zup_g, zup_n, zg_srock2, zg_stug2, zg_ssun, zg_ssun0, zg_srock, zg_srock0, zg_stug, zg_stug0, zg_sord, zg_sord0, zg_srep, zg_srep0, zg_scla, zg_scla0, zg_scon, zg_scon0, zg_swin, zg_swin0, zg_sleg, zg_sleg0, zg_spro, zg_sstp, zg_swrd, zu_srock2, zu_stug2, zu_ssun, zu_ssun0, zu_srock, zu_srock0, zu_stug, zu_stug0, zu_sord, zu_sord0, zu_srep, zu_srep0, zu_scla, zu_scla0, zu_scon, zu_scon0, zu_swin, zu_swin0, zu_sleg, zu_sleg0, zu_spro, zu_sstp, zu_swrd]

theorem LW_30 (d L i : Nat) (C : zCt) (p0 p2 r2 r3 s4 : Nat) (hi : i + 7 ≤ L) (hL : L < 2147483648) (hR : zRep C) : ∃ (C' : zCt) (q : Nat × Nat × Nat × Nat × Nat), zR (d + 121) 255 1322 [.ref 0, .ref 1, .ref 201, .int (nI i)] [] (zZ L, zI C, zPd p0 p2 r2 r3 s4) = zR (d + 121) 255 1546 [.ref 0, .ref 1, .ref 201, .int (nI i)] [] (zZ L, zI C', zPd q.1 q.2.1 q.2.2.1 q.2.2.2.1 q.2.2.2.2) ∧ zRep C' := by
  obtain ⟨v, C1, q1, h1, C2, h2, hR2, _⟩ := pr_tell (d + 20) L C hR (C 100 0 (i + 1)) (p0, p2, r2, r3, s4)
  obtain ⟨b0, b2, b3, b4, b5⟩ := q1
  have h1 : zR (d + 120) 143 0 [.ref 1, .int (C 100 0 (i + 1))] [] (zZ L, zI C, zPd p0 p2 r2 r3 s4) = some (some (.int v), (zZ L, zI C1, zPd b0 b2 b3 b4 b5)) := h1
  have h2 : zR (d + 120) 247 0 [.ref 201, .int (C 100 0 (i + 1))] [] (zZ L, zI C1, zPd b0 b2 b3 b4 b5) = some (some (.int v), (zZ L, zI C2, zPd b0 b2 b3 b4 b5)) := h2
  have e0 : ∀ k, C1 100 0 k = C 100 0 k := zLW_0 h1
  refine ⟨C2, (b0, b2, b3, b4, b5), ?_, hR2⟩
  have a1 : nI i + 1 = nI (i + 1) := nI_add i 1
  simp +decide (disch := omega) only [e255_1322, e255_1331, e255_1340, a1, e0, h1, h2, List.cons_append, List.nil_append, zpre, ite_self, Nat.reduceAdd, zs1, zs2, zs3, zI_eqb, and_self, not_true_eq_false, if_true, if_false, ite_true, ite_false, not_false_eq_true, zBP, zBZ, zisO, zisA, zlen, decide_true, decide_false, Bool.and_self, Bool.and_true, Bool.true_and, cond_true, cond_false, zBG, zBR, zBU, zBV, zinb_n, zix_n, zlA, zlB, zlM, zlN, zlX, zlI, nI_add, Nat.add_eq_zero_iff, false_and, and_false, and_true, true_and, true_or, or_true, false_or, or_false, zbool_i, zb0, zb1, zshp_0, zcs_eq, zcs_n, zcs_cs, zup_g, zup_n, zg_srock2, zg_stug2, zg_ssun, zg_ssun0, zg_srock, zg_srock0, zg_stug, zg_stug0, zg_sord, zg_sord0, zg_srep, zg_srep0, zg_scla, zg_scla0, zg_scon, zg_scon0, zg_swin, zg_swin0, zg_sleg, zg_sleg0, zg_spro, zg_sstp, zg_swrd, zu_srock2, zu_stug2, zu_ssun, zu_ssun0, zu_srock, zu_srock0, zu_stug, zu_stug0, zu_sord, zu_sord0, zu_srep, zu_srep0, zu_scla, zu_scla0, zu_scon, zu_scon0, zu_swin, zu_swin0, zu_sleg, zu_sleg0, zu_spro, zu_sstp, zu_swrd]

theorem LW_31 (d L i : Nat) (C : zCt) (p0 p2 r2 r3 s4 : Nat) (hi : i + 7 ≤ L) (hL : L < 2147483648) (hR : zRep C) : ∃ (C' : zCt) (q : Nat × Nat × Nat × Nat × Nat), zR (d + 121) 255 1345 [.ref 0, .ref 1, .ref 201, .int (nI i)] [] (zZ L, zI C, zPd p0 p2 r2 r3 s4) = zR (d + 121) 255 1546 [.ref 0, .ref 1, .ref 201, .int (nI i)] [] (zZ L, zI C', zPd q.1 q.2.1 q.2.2.1 q.2.2.2.1 q.2.2.2.2) ∧ zRep C' := by
  obtain ⟨v, C1, q1, h1, C2, h2, hR2, _⟩ := pr_check (d + 20) L C hR  (p0, p2, r2, r3, s4)
  obtain ⟨b0, b2, b3, b4, b5⟩ := q1
  have h1 : zR (d + 120) 144 0 [.ref 1, zmk, zmk, zmk, zmk] [] (zZ L, zI C, zPd p0 p2 r2 r3 s4) = some (some (.int v), (zZ L, zI C1, zPd b0 b2 b3 b4 b5)) := h1
  have h2 : zR (d + 120) 248 0 [.ref 201, zmk, zmk] [] (zZ L, zI C1, zPd b0 b2 b3 b4 b5) = some (some (.int v), (zZ L, zI C2, zPd b0 b2 b3 b4 b5)) := h2
  have e0 : ∀ k, C1 100 0 k = C 100 0 k := zLW_0 h1
  refine ⟨C2, (b0, b2, b3, b4, b5), ?_, hR2⟩
  simp +decide (disch := omega) only [e255_1345, e255_1349, e255_1353, e0, h1, h2, List.cons_append, List.nil_append, zpre, ite_self, Nat.reduceAdd, zs1, zs2, zs3, zI_eqb, and_self, not_true_eq_false, if_true, if_false, ite_true, ite_false, not_false_eq_true, zBP, zBZ, zisO, zisA, zlen, decide_true, decide_false, Bool.and_self, Bool.and_true, Bool.true_and, cond_true, cond_false, zBG, zBR, zBU, zBV, zinb_n, zix_n, zlA, zlB, zlM, zlN, zlX, zlI, nI_add, Nat.add_eq_zero_iff, false_and, and_false, and_true, true_and, true_or, or_true, false_or, or_false, zbool_i, zb0, zb1, zshp_0, zcs_eq, zcs_n, zcs_cs, zup_g, zup_n, zg_srock2, zg_stug2, zg_ssun, zg_ssun0, zg_srock, zg_srock0, zg_stug, zg_stug0, zg_sord, zg_sord0, zg_srep, zg_srep0, zg_scla, zg_scla0, zg_scon, zg_scon0, zg_swin, zg_swin0, zg_sleg, zg_sleg0, zg_spro, zg_sstp, zg_swrd, zu_srock2, zu_stug2, zu_ssun, zu_ssun0, zu_srock, zu_srock0, zu_stug, zu_stug0, zu_sord, zu_sord0, zu_srep, zu_srep0, zu_scla, zu_scla0, zu_scon, zu_scon0, zu_swin, zu_swin0, zu_sleg, zu_sleg0, zu_spro, zu_sstp, zu_swrd]

theorem LW_32 (d L i : Nat) (C : zCt) (p0 p2 r2 r3 s4 : Nat) (hi : i + 7 ≤ L) (hL : L < 2147483648) (hR : zRep C) : ∃ (C' : zCt) (q : Nat × Nat × Nat × Nat × Nat), zR (d + 121) 255 1358 [.ref 0, .ref 1, .ref 201, .int (nI i)] [] (zZ L, zI C, zPd p0 p2 r2 r3 s4) = zR (d + 121) 255 1546 [.ref 0, .ref 1, .ref 201, .int (nI i)] [] (zZ L, zI C', zPd q.1 q.2.1 q.2.2.1 q.2.2.2.1 q.2.2.2.2) ∧ zRep C' := by
  obtain ⟨v, C1, q1, h1, C2, h2, hR2, _⟩ := pr_keep (d + 20) L C hR  (p0, p2, r2, r3, s4)
  obtain ⟨b0, b2, b3, b4, b5⟩ := q1
  have h1 : zR (d + 120) 145 0 [.ref 1] [] (zZ L, zI C, zPd p0 p2 r2 r3 s4) = some (some (.int v), (zZ L, zI C1, zPd b0 b2 b3 b4 b5)) := h1
  have h2 : zR (d + 120) 249 0 [.ref 201, zmk] [] (zZ L, zI C1, zPd b0 b2 b3 b4 b5) = some (some (.int v), (zZ L, zI C2, zPd b0 b2 b3 b4 b5)) := h2
  have e0 : ∀ k, C1 100 0 k = C 100 0 k := zLW_0 h1
  refine ⟨C2, (b0, b2, b3, b4, b5), ?_, hR2⟩
  simp +decide (disch := omega) only [e255_1358, e255_1362, e255_1366, e0, h1, h2, List.cons_append, List.nil_append, zpre, ite_self, Nat.reduceAdd, zs1, zs2, zs3, zI_eqb, and_self, not_true_eq_false, if_true, if_false, ite_true, ite_false, not_false_eq_true, zBP, zBZ, zisO, zisA, zlen, decide_true, decide_false, Bool.and_self, Bool.and_true, Bool.true_and, cond_true, cond_false, zBG, zBR, zBU, zBV, zinb_n, zix_n, zlA, zlB, zlM, zlN, zlX, zlI, nI_add, Nat.add_eq_zero_iff, false_and, and_false, and_true, true_and, true_or, or_true, false_or, or_false, zbool_i, zb0, zb1, zshp_0, zcs_eq, zcs_n, zcs_cs, zup_g, zup_n, zg_srock2, zg_stug2, zg_ssun, zg_ssun0, zg_srock, zg_srock0, zg_stug, zg_stug0, zg_sord, zg_sord0, zg_srep, zg_srep0, zg_scla, zg_scla0, zg_scon, zg_scon0, zg_swin, zg_swin0, zg_sleg, zg_sleg0, zg_spro, zg_sstp, zg_swrd, zu_srock2, zu_stug2, zu_ssun, zu_ssun0, zu_srock, zu_srock0, zu_stug, zu_stug0, zu_sord, zu_sord0, zu_srep, zu_srep0, zu_scla, zu_scla0, zu_scon, zu_scon0, zu_swin, zu_swin0, zu_sleg, zu_sleg0, zu_spro, zu_sstp, zu_swrd]

theorem LW_33 (d L i : Nat) (C : zCt) (p0 p2 r2 r3 s4 : Nat) (hi : i + 7 ≤ L) (hL : L < 2147483648) (hR : zRep C) : ∃ (C' : zCt) (q : Nat × Nat × Nat × Nat × Nat), zR (d + 121) 255 1371 [.ref 0, .ref 1, .ref 201, .int (nI i)] [] (zZ L, zI C, zPd p0 p2 r2 r3 s4) = zR (d + 121) 255 1546 [.ref 0, .ref 1, .ref 201, .int (nI i)] [] (zZ L, zI C', zPd q.1 q.2.1 q.2.2.1 q.2.2.2.1 q.2.2.2.2) ∧ zRep C' := by
  obtain ⟨v, C1, q1, h1, C2, h2, hR2, _⟩ := pr_back (d + 20) L C hR  (p0, p2, r2, r3, s4)
  obtain ⟨b0, b2, b3, b4, b5⟩ := q1
  have h1 : zR (d + 120) 146 0 [.ref 1] [] (zZ L, zI C, zPd p0 p2 r2 r3 s4) = some (some (.int v), (zZ L, zI C1, zPd b0 b2 b3 b4 b5)) := h1
  have h2 : zR (d + 120) 250 0 [.ref 201, zmk] [] (zZ L, zI C1, zPd b0 b2 b3 b4 b5) = some (some (.int v), (zZ L, zI C2, zPd b0 b2 b3 b4 b5)) := h2
  have e0 : ∀ k, C1 100 0 k = C 100 0 k := zLW_0 h1
  refine ⟨C2, (b0, b2, b3, b4, b5), ?_, hR2⟩
  simp +decide (disch := omega) only [e255_1371, e255_1375, e255_1379, e0, h1, h2, List.cons_append, List.nil_append, zpre, ite_self, Nat.reduceAdd, zs1, zs2, zs3, zI_eqb, and_self, not_true_eq_false, if_true, if_false, ite_true, ite_false, not_false_eq_true, zBP, zBZ, zisO, zisA, zlen, decide_true, decide_false, Bool.and_self, Bool.and_true, Bool.true_and, cond_true, cond_false, zBG, zBR, zBU, zBV, zinb_n, zix_n, zlA, zlB, zlM, zlN, zlX, zlI, nI_add, Nat.add_eq_zero_iff, false_and, and_false, and_true, true_and, true_or, or_true, false_or, or_false, zbool_i, zb0, zb1, zshp_0, zcs_eq, zcs_n, zcs_cs, zup_g, zup_n, zg_srock2, zg_stug2, zg_ssun, zg_ssun0, zg_srock, zg_srock0, zg_stug, zg_stug0, zg_sord, zg_sord0, zg_srep, zg_srep0, zg_scla, zg_scla0, zg_scon, zg_scon0, zg_swin, zg_swin0, zg_sleg, zg_sleg0, zg_spro, zg_sstp, zg_swrd, zu_srock2, zu_stug2, zu_ssun, zu_ssun0, zu_srock, zu_srock0, zu_stug, zu_stug0, zu_sord, zu_sord0, zu_srep, zu_srep0, zu_scla, zu_scla0, zu_scon, zu_scon0, zu_swin, zu_swin0, zu_sleg, zu_sleg0, zu_spro, zu_sstp, zu_swrd]

theorem LW_34 (d L i : Nat) (C : zCt) (p0 p2 r2 r3 s4 : Nat) (hi : i + 7 ≤ L) (hL : L < 2147483648) (hR : zRep C) : ∃ (C' : zCt) (q : Nat × Nat × Nat × Nat × Nat), zR (d + 121) 255 1384 [.ref 0, .ref 1, .ref 201, .int (nI i)] [] (zZ L, zI C, zPd p0 p2 r2 r3 s4) = zR (d + 121) 255 1546 [.ref 0, .ref 1, .ref 201, .int (nI i)] [] (zZ L, zI C', zPd q.1 q.2.1 q.2.2.1 q.2.2.2.1 q.2.2.2.2) ∧ zRep C' := by
  obtain ⟨v, C1, q1, h1, C2, h2, hR2, _⟩ := pr_sheet (d + 20) L C hR (C 100 0 (i + 1)) (C 100 0 (i + 2)) (p0, p2, r2, r3, s4)
  obtain ⟨b0, b2, b3, b4, b5⟩ := q1
  have h1 : zR (d + 120) 147 0 [.ref 1, .int (C 100 0 (i + 1)), .int (C 100 0 (i + 2)), zmk] [] (zZ L, zI C, zPd p0 p2 r2 r3 s4) = some (some (.int v), (zZ L, zI C1, zPd b0 b2 b3 b4 b5)) := h1
  have h2 : zR (d + 120) 251 0 [.ref 201, .int (C 100 0 (i + 1)), .int (C 100 0 (i + 2)), zmk] [] (zZ L, zI C1, zPd b0 b2 b3 b4 b5) = some (some (.int v), (zZ L, zI C2, zPd b0 b2 b3 b4 b5)) := h2
  have e0 : ∀ k, C1 100 0 k = C 100 0 k := zLW_0 h1
  refine ⟨C2, (b0, b2, b3, b4, b5), ?_, hR2⟩
  have a1 : nI i + 1 = nI (i + 1) := nI_add i 1
  have a2 : nI i + 2 = nI (i + 2) := nI_add i 2
  simp +decide (disch := omega) only [e255_1384, e255_1398, e255_1412, a1, a2, e0, h1, h2, List.cons_append, List.nil_append, zpre, ite_self, Nat.reduceAdd, zs1, zs2, zs3, zI_eqb, and_self, not_true_eq_false, if_true, if_false, ite_true, ite_false, not_false_eq_true, zBP, zBZ, zisO, zisA, zlen, decide_true, decide_false, Bool.and_self, Bool.and_true, Bool.true_and, cond_true, cond_false, zBG, zBR, zBU, zBV, zinb_n, zix_n, zlA, zlB, zlM, zlN, zlX, zlI, nI_add, Nat.add_eq_zero_iff, false_and, and_false, and_true, true_and, true_or, or_true, false_or, or_false, zbool_i, zb0, zb1, zshp_0, zcs_eq, zcs_n, zcs_cs, zup_g, zup_n, zg_srock2, zg_stug2, zg_ssun, zg_ssun0, zg_srock, zg_srock0, zg_stug, zg_stug0, zg_sord, zg_sord0, zg_srep, zg_srep0, zg_scla, zg_scla0, zg_scon, zg_scon0, zg_swin, zg_swin0, zg_sleg, zg_sleg0, zg_spro, zg_sstp, zg_swrd, zu_srock2, zu_stug2, zu_ssun, zu_ssun0, zu_srock, zu_srock0, zu_stug, zu_stug0, zu_sord, zu_sord0, zu_srep, zu_srep0, zu_scla, zu_scla0, zu_scon, zu_scon0, zu_swin, zu_swin0, zu_sleg, zu_sleg0, zu_spro, zu_sstp, zu_swrd]

theorem LW_35 (d L i : Nat) (C : zCt) (p0 p2 r2 r3 s4 : Nat) (hi : i + 7 ≤ L) (hL : L < 2147483648) (hR : zRep C) : ∃ (C' : zCt) (q : Nat × Nat × Nat × Nat × Nat), zR (d + 121) 255 1417 [.ref 0, .ref 1, .ref 201, .int (nI i)] [] (zZ L, zI C, zPd p0 p2 r2 r3 s4) = zR (d + 121) 255 1546 [.ref 0, .ref 1, .ref 201, .int (nI i)] [] (zZ L, zI C', zPd q.1 q.2.1 q.2.2.1 q.2.2.2.1 q.2.2.2.2) ∧ zRep C' := by
  obtain ⟨v, C1, q1, h1, C2, h2, hR2, _⟩ := pr_mark (d + 20) L C hR (C 100 0 (i + 1)) (C 100 0 (i + 2)) (C 100 0 (i + 3)) (p0, p2, r2, r3, s4)
  obtain ⟨b0, b2, b3, b4, b5⟩ := q1
  have h1 : zR (d + 120) 148 0 [.ref 1, .int (C 100 0 (i + 1)), .int (C 100 0 (i + 2)), .int (C 100 0 (i + 3)), zmk] [] (zZ L, zI C, zPd p0 p2 r2 r3 s4) = some (some (.int v), (zZ L, zI C1, zPd b0 b2 b3 b4 b5)) := h1
  have h2 : zR (d + 120) 252 0 [.ref 201, .int (C 100 0 (i + 1)), .int (C 100 0 (i + 2)), .int (C 100 0 (i + 3)), zmk] [] (zZ L, zI C1, zPd b0 b2 b3 b4 b5) = some (some (.int v), (zZ L, zI C2, zPd b0 b2 b3 b4 b5)) := h2
  have e0 : ∀ k, C1 100 0 k = C 100 0 k := zLW_0 h1
  refine ⟨C2, (b0, b2, b3, b4, b5), ?_, hR2⟩
  have a1 : nI i + 1 = nI (i + 1) := nI_add i 1
  have a2 : nI i + 2 = nI (i + 2) := nI_add i 2
  have a3 : nI i + 3 = nI (i + 3) := nI_add i 3
  simp +decide (disch := omega) only [e255_1417, e255_1436, e255_1455, a1, a2, a3, e0, h1, h2, List.cons_append, List.nil_append, zpre, ite_self, Nat.reduceAdd, zs1, zs2, zs3, zI_eqb, and_self, not_true_eq_false, if_true, if_false, ite_true, ite_false, not_false_eq_true, zBP, zBZ, zisO, zisA, zlen, decide_true, decide_false, Bool.and_self, Bool.and_true, Bool.true_and, cond_true, cond_false, zBG, zBR, zBU, zBV, zinb_n, zix_n, zlA, zlB, zlM, zlN, zlX, zlI, nI_add, Nat.add_eq_zero_iff, false_and, and_false, and_true, true_and, true_or, or_true, false_or, or_false, zbool_i, zb0, zb1, zshp_0, zcs_eq, zcs_n, zcs_cs, zup_g, zup_n, zg_srock2, zg_stug2, zg_ssun, zg_ssun0, zg_srock, zg_srock0, zg_stug, zg_stug0, zg_sord, zg_sord0, zg_srep, zg_srep0, zg_scla, zg_scla0, zg_scon, zg_scon0, zg_swin, zg_swin0, zg_sleg, zg_sleg0, zg_spro, zg_sstp, zg_swrd, zu_srock2, zu_stug2, zu_ssun, zu_ssun0, zu_srock, zu_srock0, zu_stug, zu_stug0, zu_sord, zu_sord0, zu_srep, zu_srep0, zu_scla, zu_scla0, zu_scon, zu_scon0, zu_swin, zu_swin0, zu_sleg, zu_sleg0, zu_spro, zu_sstp, zu_swrd]

theorem LW_36 (d L i : Nat) (C : zCt) (p0 p2 r2 r3 s4 : Nat) (hi : i + 7 ≤ L) (hL : L < 2147483648) (hR : zRep C) : ∃ (C' : zCt) (q : Nat × Nat × Nat × Nat × Nat), zR (d + 121) 255 1460 [.ref 0, .ref 1, .ref 201, .int (nI i)] [] (zZ L, zI C, zPd p0 p2 r2 r3 s4) = zR (d + 121) 255 1546 [.ref 0, .ref 1, .ref 201, .int (nI i)] [] (zZ L, zI C', zPd q.1 q.2.1 q.2.2.1 q.2.2.2.1 q.2.2.2.2) ∧ zRep C' := by
  obtain ⟨v, C1, q1, h1, C2, h2, hR2, _⟩ := pr_copy (d + 20) L C hR (C 100 0 (i + 1)) (C 100 0 (i + 2)) (C 100 0 (i + 3)) (C 100 0 (i + 4)) (C 100 0 (i + 5)) (p0, p2, r2, r3, s4)
  obtain ⟨b0, b2, b3, b4, b5⟩ := q1
  have h1 : zR (d + 120) 149 0 [.ref 1, .int (C 100 0 (i + 1)), .int (C 100 0 (i + 2)), .int (C 100 0 (i + 3)), .int (C 100 0 (i + 4)), .int (C 100 0 (i + 5))] [] (zZ L, zI C, zPd p0 p2 r2 r3 s4) = some (some (.int v), (zZ L, zI C1, zPd b0 b2 b3 b4 b5)) := h1
  have h2 : zR (d + 120) 253 0 [.ref 201, .int (C 100 0 (i + 1)), .int (C 100 0 (i + 2)), .int (C 100 0 (i + 3)), .int (C 100 0 (i + 4)), .int (C 100 0 (i + 5)), zmk] [] (zZ L, zI C1, zPd b0 b2 b3 b4 b5) = some (some (.int v), (zZ L, zI C2, zPd b0 b2 b3 b4 b5)) := h2
  have e0 : ∀ k, C1 100 0 k = C 100 0 k := zLW_0 h1
  refine ⟨C2, (b0, b2, b3, b4, b5), ?_, hR2⟩
  have a1 : nI i + 1 = nI (i + 1) := nI_add i 1
  have a2 : nI i + 2 = nI (i + 2) := nI_add i 2
  have a3 : nI i + 3 = nI (i + 3) := nI_add i 3
  have a4 : nI i + 4 = nI (i + 4) := nI_add i 4
  have a5 : nI i + 5 = nI (i + 5) := nI_add i 5
  simp +decide (disch := omega) only [e255_1460, e255_1489, e255_1518, a1, a2, a3, a4, a5, e0, h1, h2, List.cons_append, List.nil_append, zpre, ite_self, Nat.reduceAdd, zs1, zs2, zs3, zI_eqb, and_self, not_true_eq_false, if_true, if_false, ite_true, ite_false, not_false_eq_true, zBP, zBZ, zisO, zisA, zlen, decide_true, decide_false, Bool.and_self, Bool.and_true, Bool.true_and, cond_true, cond_false, zBG, zBR, zBU, zBV, zinb_n, zix_n, zlA, zlB, zlM, zlN, zlX, zlI, nI_add, Nat.add_eq_zero_iff, false_and, and_false, and_true, true_and, true_or, or_true, false_or, or_false, zbool_i, zb0, zb1, zshp_0, zcs_eq, zcs_n, zcs_cs, zup_g, zup_n, zg_srock2, zg_stug2, zg_ssun, zg_ssun0, zg_srock, zg_srock0, zg_stug, zg_stug0, zg_sord, zg_sord0, zg_srep, zg_srep0, zg_scla, zg_scla0, zg_scon, zg_scon0, zg_swin, zg_swin0, zg_sleg, zg_sleg0, zg_spro, zg_sstp, zg_swrd, zu_srock2, zu_stug2, zu_ssun, zu_ssun0, zu_srock, zu_srock0, zu_stug, zu_stug0, zu_sord, zu_sord0, zu_srep, zu_srep0, zu_scla, zu_scla0, zu_scon, zu_scon0, zu_swin, zu_swin0, zu_sleg, zu_sleg0, zu_spro, zu_sstp, zu_swrd]

theorem LW_37 (d L i : Nat) (C : zCt) (p0 p2 r2 r3 s4 : Nat) (hi : i + 7 ≤ L) (hL : L < 2147483648) (hR : zRep C) : ∃ (C' : zCt) (q : Nat × Nat × Nat × Nat × Nat), zR (d + 121) 255 1523 [.ref 0, .ref 1, .ref 201, .int (nI i)] [] (zZ L, zI C, zPd p0 p2 r2 r3 s4) = zR (d + 121) 255 1546 [.ref 0, .ref 1, .ref 201, .int (nI i)] [] (zZ L, zI C', zPd q.1 q.2.1 q.2.2.1 q.2.2.2.1 q.2.2.2.2) ∧ zRep C' := by
  obtain ⟨v, C1, q1, h1, C2, h2, hR2, _⟩ := pr_count (d + 20) L C hR (C 100 0 (i + 1)) (p0, p2, r2, r3, s4)
  obtain ⟨b0, b2, b3, b4, b5⟩ := q1
  have h1 : zR (d + 120) 150 0 [.ref 1, .int (C 100 0 (i + 1))] [] (zZ L, zI C, zPd p0 p2 r2 r3 s4) = some (some (.int v), (zZ L, zI C1, zPd b0 b2 b3 b4 b5)) := h1
  have h2 : zR (d + 120) 254 0 [.ref 201, .int (C 100 0 (i + 1)), zmk, zmk] [] (zZ L, zI C1, zPd b0 b2 b3 b4 b5) = some (some (.int v), (zZ L, zI C2, zPd b0 b2 b3 b4 b5)) := h2
  have e0 : ∀ k, C1 100 0 k = C 100 0 k := zLW_0 h1
  refine ⟨C2, (b0, b2, b3, b4, b5), ?_, hR2⟩
  have a1 : nI i + 1 = nI (i + 1) := nI_add i 1
  simp +decide (disch := omega) only [e255_1523, e255_1532, e255_1541, a1, e0, h1, h2, List.cons_append, List.nil_append, zpre, ite_self, Nat.reduceAdd, zs1, zs2, zs3, zI_eqb, and_self, not_true_eq_false, if_true, if_false, ite_true, ite_false, not_false_eq_true, zBP, zBZ, zisO, zisA, zlen, decide_true, decide_false, Bool.and_self, Bool.and_true, Bool.true_and, cond_true, cond_false, zBG, zBR, zBU, zBV, zinb_n, zix_n, zlA, zlB, zlM, zlN, zlX, zlI, nI_add, Nat.add_eq_zero_iff, false_and, and_false, and_true, true_and, true_or, or_true, false_or, or_false, zbool_i, zb0, zb1, zshp_0, zcs_eq, zcs_n, zcs_cs, zup_g, zup_n, zg_srock2, zg_stug2, zg_ssun, zg_ssun0, zg_srock, zg_srock0, zg_stug, zg_stug0, zg_sord, zg_sord0, zg_srep, zg_srep0, zg_scla, zg_scla0, zg_scon, zg_scon0, zg_swin, zg_swin0, zg_sleg, zg_sleg0, zg_spro, zg_sstp, zg_swrd, zu_srock2, zu_stug2, zu_ssun, zu_ssun0, zu_srock, zu_srock0, zu_stug, zu_stug0, zu_sord, zu_sord0, zu_srep, zu_srep0, zu_scla, zu_scla0, zu_scon, zu_scon0, zu_swin, zu_swin0, zu_sleg, zu_sleg0, zu_spro, zu_sstp, zu_swrd]

