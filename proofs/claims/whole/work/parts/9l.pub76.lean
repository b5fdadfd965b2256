/-! THE PROGRAM: S in the model (2), printed by wip/gen/pub76.py -/
theorem H_bad (d L p0 p2 r2 r3 s4 : Nat) (C : zCt) (h : C 401 0 10 = 1) : zR (d + 8) 179 46 [.ref 201, .int 1] [] (zZ L, zI C, zPd p0 p2 r2 r3 s4) = some (none, (zZ L, zI C, zPd p0 p2 r2 r3 s4)) := by
  rw [e179_46]
  simp +decide (disch := omega) only [e179_50, e179_120, h, zpre, ite_self, Nat.reduceAdd, zs1, zs2, zs3, zI_eqb, and_self, not_true_eq_false, if_true, if_false, ite_true, ite_false, not_false_eq_true, zBP, zBZ, zisO, zisA, zlen, decide_true, decide_false, Bool.and_self, Bool.and_true, Bool.true_and, cond_true, cond_false, zBG, zBR, zBU, zBV, zinb_n, zix_n, zlA, zlB, zlM, zlN, zlX, zlI, nI_add, Nat.add_eq_zero_iff, false_and, and_false, and_true, true_and, true_or, or_true, false_or, or_false, zbool_i, zb0, zb1, zshp_0, zcs_eq, zcs_n, zcs_cs, zup_g, zup_n, zg_srock2, zg_stug2, zg_ssun, zg_ssun0, zg_srock, zg_srock0, zg_stug, zg_stug0, zg_sord, zg_sord0, zg_srep, zg_srep0, zg_scla, zg_scla0, zg_scon, zg_scon0, zg_swin, zg_swin0, zg_sleg, zg_sleg0, zg_spro, zg_sstp, zg_swrd, zu_srock2, zu_stug2, zu_ssun, zu_ssun0, zu_srock, zu_srock0, zu_stug, zu_stug0, zu_sord, zu_sord0, zu_srep, zu_srep0, zu_scla, zu_scla0, zu_scon, zu_scon0, zu_swin, zu_swin0, zu_sleg, zu_sleg0, zu_spro, zu_sstp, zu_swrd]
theorem H_s (d L p0 p2 r2 r3 s4 : Nat) (C C' : zCt) {T : Nat → Nat} {n N j t : Nat} {x : zLx} {B : List (Nat × Nat)} {sm : Int32} (hk : zTk T n x) (h : zMS T n C x N j t B sm) (hs : sm = 0 ∨ (sm = 1 ∧ x.2.2 ≠ 0 ∧ ¬ zisg T x 125)) (hr : zR (d + 7) 189 0 [.ref 201, zmk, zmk, zmk, zmk, zmk] [] (zZ L, zI C, zPd p0 p2 r2 r3 s4) = some (none, (zZ L, zI C', zPd p0 p2 r2 r3 s4))) : zR (d + 8) 179 46 [.ref 201, .int 1] [] (zZ L, zI C, zPd p0 p2 r2 r3 s4) = zR (d + 8) 179 46 [.ref 201, .int 1] [] (zZ L, zI C', zPd p0 p2 r2 r3 s4) := by
  obtain ⟨hM, h13, h14, h15, h18, hB, hbk, h19, hx⟩ := h
  have h10 := hM.2.2.2.2
  rw [e179_46]
  rcases hs with e | ⟨e, e0, e1⟩
  · rw [e] at h19
    simp +decide (disch := omega) only [e179_50, e179_57, e179_83, e179_113, e179_117, h10, h19, hr, zpre, ite_self, Nat.reduceAdd, zs1, zs2, zs3, zI_eqb, and_self, not_true_eq_false, if_true, if_false, ite_true, ite_false, not_false_eq_true, zBP, zBZ, zisO, zisA, zlen, decide_true, decide_false, Bool.and_self, Bool.and_true, Bool.true_and, cond_true, cond_false, zBG, zBR, zBU, zBV, zinb_n, zix_n, zlA, zlB, zlM, zlN, zlX, zlI, nI_add, Nat.add_eq_zero_iff, false_and, and_false, and_true, true_and, true_or, or_true, false_or, or_false, zbool_i, zb0, zb1, zshp_0, zcs_eq, zcs_n, zcs_cs, zup_g, zup_n, zg_srock2, zg_stug2, zg_ssun, zg_ssun0, zg_srock, zg_srock0, zg_stug, zg_stug0, zg_sord, zg_sord0, zg_srep, zg_srep0, zg_scla, zg_scla0, zg_scon, zg_scon0, zg_swin, zg_swin0, zg_sleg, zg_sleg0, zg_spro, zg_sstp, zg_swrd, zu_srock2, zu_stug2, zu_ssun, zu_ssun0, zu_srock, zu_srock0, zu_stug, zu_stug0, zu_sord, zu_sord0, zu_srep, zu_srep0, zu_scla, zu_scla0, zu_scon, zu_scon0, zu_swin, zu_swin0, zu_sleg, zu_sleg0, zu_spro, zu_sstp, zu_swrd]
  · rw [e] at h19
    have t1 : zR (d + 7) 183 0 [.ref 201, .int 125] [] (zZ L, zI C, zPd p0 p2 r2 r3 s4) = _ := M183_n (d + 7) L p0 p2 r2 r3 s4 C hM hk (c := 125) (by decide) e1
    have h5k := hk.2.2.1
    have h8 : ¬ C 401 0 8 = 0 := by
      rw [hM.2.1]
      unfold zso
      split
      · decide
      · exact fun q => e0 ((nI_eq (b := 0) (by omega) (by decide)).mp q)
    cases B with
    | nil =>
      have h18 : C 401 0 18 = 0 := h18
      have c0 : (0 : Int32) ≤ 0 := by decide
      simp +decide (disch := omega) only [e179_50, e179_57, e179_64, e179_71, e179_83, e179_90, e179_113, e179_117, h10, h19, h18, h8, c0, hr, zpre, ite_self, Nat.reduceAdd, zs1, zs2, zs3, zI_eqb, and_self, not_true_eq_false, if_true, if_false, ite_true, ite_false, not_false_eq_true, zBP, zBZ, zisO, zisA, zlen, decide_true, decide_false, Bool.and_self, Bool.and_true, Bool.true_and, cond_true, cond_false, zBG, zBR, zBU, zBV, zinb_n, zix_n, zlA, zlB, zlM, zlN, zlX, zlI, nI_add, Nat.add_eq_zero_iff, false_and, and_false, and_true, true_and, true_or, or_true, false_or, or_false, zbool_i, zb0, zb1, zshp_0, zcs_eq, zcs_n, zcs_cs, zup_g, zup_n, zg_srock2, zg_stug2, zg_ssun, zg_ssun0, zg_srock, zg_srock0, zg_stug, zg_stug0, zg_sord, zg_sord0, zg_srep, zg_srep0, zg_scla, zg_scla0, zg_scon, zg_scon0, zg_swin, zg_swin0, zg_sleg, zg_sleg0, zg_spro, zg_sstp, zg_swrd, zu_srock2, zu_stug2, zu_ssun, zu_ssun0, zu_srock, zu_srock0, zu_stug, zu_stug0, zu_sord, zu_sord0, zu_srep, zu_srep0, zu_scla, zu_scla0, zu_scon, zu_scon0, zu_swin, zu_swin0, zu_sleg, zu_sleg0, zu_spro, zu_sstp, zu_swrd]
    | cons q r =>
      simp only [List.length_cons] at h18 hB
      have c0 : ¬ nI (r.length + 1) ≤ 0 := nI_eqz (by omega) (by omega)
      have c1 : ¬ nI (r.length + 1) = 0 := fun w => by have := (nI_eq (b := 0) (by omega) (by decide)).mp w; omega
      simp +decide (disch := omega) only [e179_50, e179_57, e179_64, e179_83, e179_90, e179_97, e179_103, e179_113, e179_117, h10, h19, h18, c0, c1, t1, hr, zpre, ite_self, Nat.reduceAdd, zs1, zs2, zs3, zI_eqb, and_self, not_true_eq_false, if_true, if_false, ite_true, ite_false, not_false_eq_true, zBP, zBZ, zisO, zisA, zlen, decide_true, decide_false, Bool.and_self, Bool.and_true, Bool.true_and, cond_true, cond_false, zBG, zBR, zBU, zBV, zinb_n, zix_n, zlA, zlB, zlM, zlN, zlX, zlI, nI_add, Nat.add_eq_zero_iff, false_and, and_false, and_true, true_and, true_or, or_true, false_or, or_false, zbool_i, zb0, zb1, zshp_0, zcs_eq, zcs_n, zcs_cs, zup_g, zup_n, zg_srock2, zg_stug2, zg_ssun, zg_ssun0, zg_srock, zg_srock0, zg_stug, zg_stug0, zg_sord, zg_sord0, zg_srep, zg_srep0, zg_scla, zg_scla0, zg_scon, zg_scon0, zg_swin, zg_swin0, zg_sleg, zg_sleg0, zg_spro, zg_sstp, zg_swrd, zu_srock2, zu_stug2, zu_ssun, zu_ssun0, zu_srock, zu_srock0, zu_stug, zu_stug0, zu_sord, zu_sord0, zu_srep, zu_srep0, zu_scla, zu_scla0, zu_scon, zu_scon0, zu_swin, zu_swin0, zu_sleg, zu_sleg0, zu_spro, zu_sstp, zu_swrd]
theorem H_c (d L p0 p2 r2 r3 s4 : Nat) (C C' : zCt) {T : Nat → Nat} {n N j t : Nat} {x : zLx} {q : Nat × Nat} {B : List (Nat × Nat)} (hk : zTk T n x) (h : zMS T n C x N j t (q :: B) 1) (hs : zisg T x 125) (hr : zR (d + 7) 184 0 [.ref 201, zmk, zmk] [] (zZ L, zI C, zPd p0 p2 r2 r3 s4) = some (none, (zZ L, zI C', zPd p0 p2 r2 r3 s4))) : zR (d + 8) 179 46 [.ref 201, .int 1] [] (zZ L, zI C, zPd p0 p2 r2 r3 s4) = zR (d + 8) 179 46 [.ref 201, .int 1] [] (zZ L, zI C', zPd p0 p2 r2 r3 s4) := by
  obtain ⟨hM, h13, h14, h15, h18, hB, hbk, h19, hx⟩ := h
  have h10 := hM.2.2.2.2
  rw [e179_46]
  have t1 : zR (d + 7) 183 0 [.ref 201, .int 125] [] (zZ L, zI C, zPd p0 p2 r2 r3 s4) = _ := M183_y (d + 7) L p0 p2 r2 r3 s4 C hM hk hs
  simp only [List.length_cons] at h18 hB
  have c0 : ¬ nI (B.length + 1) ≤ 0 := nI_eqz (by omega) (by omega)
  have c1 : ¬ nI (B.length + 1) = 0 := fun w => by have := (nI_eq (b := 0) (by omega) (by decide)).mp w; omega
  simp +decide (disch := omega) only [e179_50, e179_57, e179_64, e179_83, e179_90, e179_97, e179_103, e179_106, e179_110, h10, h19, h18, c0, c1, t1, hr, zpre, ite_self, Nat.reduceAdd, zs1, zs2, zs3, zI_eqb, and_self, not_true_eq_false, if_true, if_false, ite_true, ite_false, not_false_eq_true, zBP, zBZ, zisO, zisA, zlen, decide_true, decide_false, Bool.and_self, Bool.and_true, Bool.true_and, cond_true, cond_false, zBG, zBR, zBU, zBV, zinb_n, zix_n, zlA, zlB, zlM, zlN, zlX, zlI, nI_add, Nat.add_eq_zero_iff, false_and, and_false, and_true, true_and, true_or, or_true, false_or, or_false, zbool_i, zb0, zb1, zshp_0, zcs_eq, zcs_n, zcs_cs, zup_g, zup_n, zg_srock2, zg_stug2, zg_ssun, zg_ssun0, zg_srock, zg_srock0, zg_stug, zg_stug0, zg_sord, zg_sord0, zg_srep, zg_srep0, zg_scla, zg_scla0, zg_scon, zg_scon0, zg_swin, zg_swin0, zg_sleg, zg_sleg0, zg_spro, zg_sstp, zg_swrd, zu_srock2, zu_stug2, zu_ssun, zu_ssun0, zu_srock, zu_srock0, zu_stug, zu_stug0, zu_sord, zu_sord0, zu_srep, zu_srep0, zu_scla, zu_scla0, zu_scon, zu_scon0, zu_swin, zu_swin0, zu_sleg, zu_sleg0, zu_spro, zu_sstp, zu_swrd]
theorem H_e (d L p0 p2 r2 r3 s4 : Nat) (C : zCt) {T : Nat → Nat} {n N j t : Nat} {x : zLx} (h : zMS T n C x N j t [] 1) (h0 : x.2.2 = 0) : zR (d + 8) 179 46 [.ref 201, .int 1] [] (zZ L, zI C, zPd p0 p2 r2 r3 s4) = some (none, (zZ L, zI C, zPd p0 p2 r2 r3 s4)) := by
  obtain ⟨hM, h13, h14, h15, h18, hB, hbk, h19, hx⟩ := h
  have h10 := hM.2.2.2.2
  have h8 : C 401 0 8 = 0 := by have := hM.2.1; rw [h0] at this; exact this
  have h18 : C 401 0 18 = 0 := h18
  rw [e179_46]
  have e0 : zR (d + 8) 179 46 [.ref 201, .int 0] [] (zZ L, zI C, zPd p0 p2 r2 r3 s4) = some (none, (zZ L, zI C, zPd p0 p2 r2 r3 s4)) := by rw [e179_46, if_pos rfl, e179_120]
  simp +decide (disch := omega) only [e179_50, e179_57, e179_64, e179_71, e179_78, h10, h19, h18, h8, e0, zpre, ite_self, Nat.reduceAdd, zs1, zs2, zs3, zI_eqb, and_self, not_true_eq_false, if_true, if_false, ite_true, ite_false, not_false_eq_true, zBP, zBZ, zisO, zisA, zlen, decide_true, decide_false, Bool.and_self, Bool.and_true, Bool.true_and, cond_true, cond_false, zBG, zBR, zBU, zBV, zinb_n, zix_n, zlA, zlB, zlM, zlN, zlX, zlI, nI_add, Nat.add_eq_zero_iff, false_and, and_false, and_true, true_and, true_or, or_true, false_or, or_false, zbool_i, zb0, zb1, zshp_0, zcs_eq, zcs_n, zcs_cs, zup_g, zup_n, zg_srock2, zg_stug2, zg_ssun, zg_ssun0, zg_srock, zg_srock0, zg_stug, zg_stug0, zg_sord, zg_sord0, zg_srep, zg_srep0, zg_scla, zg_scla0, zg_scon, zg_scon0, zg_swin, zg_swin0, zg_sleg, zg_sleg0, zg_spro, zg_sstp, zg_swrd, zu_srock2, zu_stug2, zu_ssun, zu_ssun0, zu_srock, zu_srock0, zu_stug, zu_stug0, zu_sord, zu_sord0, zu_srep, zu_srep0, zu_scla, zu_scla0, zu_scon, zu_scon0, zu_swin, zu_swin0, zu_sleg, zu_sleg0, zu_spro, zu_sstp, zu_swrd]
def zc1 (C : zCt) (t : Nat) : zCt := zcs C 401 (zup (zup (C 401) 0 15 (nI (t + 1))) 0 19 1)
theorem zc1_f {C : zCt} {t f : Nat} (h1 : f ≠ 15) (h2 : f ≠ 19) : zc1 C t 401 0 f = C 401 0 f := by unfold zc1; rw [zcs_eq, zup_n _ _ (by omega), zup_n _ _ (by omega)]
theorem zc1_g {C : zCt} {t g : Nat} (h : g ≠ 401) : zc1 C t g = C g := by unfold zc1; rw [zcs_n _ _ h]
theorem zc1_15 {C : zCt} {t : Nat} : zc1 C t 401 0 15 = nI (t + 1) ∧ zc1 C t 401 0 19 = 1 := by unfold zc1; rw [zcs_eq]; exact ⟨by rw [zup_n _ _ (by omega), zup_g], by rw [zup_g]⟩
theorem zc1_M {T : Nat → Nat} {n t : Nat} {C : zCt} {x : zLx} (h : zPM T n C x) : zPM T n (zc1 C t) x := by
  unfold zPM zMT at *
  rw [zc1_f (by decide) (by decide), zc1_f (by decide) (by decide), zc1_f (by decide) (by decide), zc1_f (by decide) (by decide), zc1_f (by decide) (by decide), zc1_g (by decide)]
  exact h
theorem zc1_F {N j t : Nat} {C : zCt} : zFS N j C (zc1 C t) := by
  unfold zc1
  exact zFS_4 (fun f a0 a1 a2 a3 a4 a5 a6 a7 a8 a9 a10 a11 a12 => by rw [zup_n _ _ (by omega), zup_n _ _ (by omega)])
def l89 (T : Nat → Nat) (x : zLx) (o j : Nat) : List Value := [.ref 201, .long (zlw T x), zkl zmk, .int (nI o), .int (nI j), zmk]
theorem M189_s (d L p0 p2 r2 r3 s4 : Nat) (C : zCt) {T : Nat → Nat} {n j t : Nat} {x : zLx} (h : zPM T n C x) (hk : zTk T n x) (h14 : C 401 0 14 = nI j) (h15 : C 401 0 15 = nI t) (hz : zsm (zV T x) ≠ 0) : zR (d + 7) 189 0 [.ref 201, zmk, zmk, zmk, zmk, zmk] [] (zZ L, zI C, zPd p0 p2 r2 r3 s4) = zR (d + 7) 189 36 (l89 T x (zsm (zV T x)) j) [] (zZ L, zI (zc1 C t), zPd p0 p2 r2 r3 s4) := by
  have p1 : zPM T n (zcs C 401 (zup (C 401) 0 15 (nI (t + 1)))) x := by
    unfold zPM zMT at *
    rw [zcs_eq, zcs_n _ _ (by decide)]
    simp (disch := omega) only [zup_n]
    exact h
  have t1 := M186 (d + 6) L p0 p2 r2 r3 s4 _ p1 hk
  have t2 := M190 (d + 5) (zZ L) (zI (zcs C 401 (zup (C 401) 0 15 (nI (t + 1))))) (zPd p0 p2 r2 r3 s4) hk zmk (T := T) (x := x)
  have hb : zsm (zV T x) < 12 := by
    unfold zsm
    repeat' split
    all_goals omega
  have c0 : ¬ nI (zsm (zV T x)) = 0 := fun q => hz ((nI_eq (b := 0) (by omega) (by decide)).mp q)
  unfold l89 zc1
  rw [e189_0]
  simp +decide (disch := omega) only [e189_14, e189_20, h14, h15, t1, t2, c0, zpre, ite_self, Nat.reduceAdd, zs1, zs2, zs3, zI_eqb, and_self, not_true_eq_false, if_true, if_false, ite_true, ite_false, not_false_eq_true, zBP, zBZ, zisO, zisA, zlen, decide_true, decide_false, Bool.and_self, Bool.and_true, Bool.true_and, cond_true, cond_false, zBG, zBR, zBU, zBV, zinb_n, zix_n, zlA, zlB, zlM, zlN, zlX, zlI, nI_add, Nat.add_eq_zero_iff, false_and, and_false, and_true, true_and, true_or, or_true, false_or, or_false, zbool_i, zb0, zb1, zshp_0, zcs_eq, zcs_n, zcs_cs, zup_g, zup_n, zg_srock2, zg_stug2, zg_ssun, zg_ssun0, zg_srock, zg_srock0, zg_stug, zg_stug0, zg_sord, zg_sord0, zg_srep, zg_srep0, zg_scla, zg_scla0, zg_scon, zg_scon0, zg_swin, zg_swin0, zg_sleg, zg_sleg0, zg_spro, zg_sstp, zg_swrd, zu_srock2, zu_stug2, zu_ssun, zu_ssun0, zu_srock, zu_srock0, zu_stug, zu_stug0, zu_sord, zu_sord0, zu_srep, zu_srep0, zu_scla, zu_scla0, zu_scon, zu_scon0, zu_swin, zu_swin0, zu_sleg, zu_sleg0, zu_spro, zu_sstp, zu_swrd]
theorem M189_n (d L p0 p2 r2 r3 s4 : Nat) (C : zCt) {T : Nat → Nat} {n j t : Nat} {x : zLx} (h : zPM T n C x) (hk : zTk T n x) (h14 : C 401 0 14 = nI j) (h15 : C 401 0 15 = nI t) (hz : zsm (zV T x) = 0) : zR (d + 7) 189 0 [.ref 201, zmk, zmk, zmk, zmk, zmk] [] (zZ L, zI C, zPd p0 p2 r2 r3 s4) = zR (d + 7) 189 51 (l89 T x 0 j) [] (zZ L, zI (zc1 C t), zPd p0 p2 r2 r3 s4) := by
  have p1 : zPM T n (zcs C 401 (zup (C 401) 0 15 (nI (t + 1)))) x := by
    unfold zPM zMT at *
    rw [zcs_eq, zcs_n _ _ (by decide)]
    simp (disch := omega) only [zup_n]
    exact h
  have t1 := M186 (d + 6) L p0 p2 r2 r3 s4 _ p1 hk
  have t2 := M190 (d + 5) (zZ L) (zI (zcs C 401 (zup (C 401) 0 15 (nI (t + 1))))) (zPd p0 p2 r2 r3 s4) hk zmk (T := T) (x := x)
  rw [hz, zn0] at t2
  unfold l89 zc1
  rw [e189_0, zn0]
  simp +decide (disch := omega) only [e189_14, e189_20, h14, h15, t1, t2, zpre, ite_self, Nat.reduceAdd, zs1, zs2, zs3, zI_eqb, and_self, not_true_eq_false, if_true, if_false, ite_true, ite_false, not_false_eq_true, zBP, zBZ, zisO, zisA, zlen, decide_true, decide_false, Bool.and_self, Bool.and_true, Bool.true_and, cond_true, cond_false, zBG, zBR, zBU, zBV, zinb_n, zix_n, zlA, zlB, zlM, zlN, zlX, zlI, nI_add, Nat.add_eq_zero_iff, false_and, and_false, and_true, true_and, true_or, or_true, false_or, or_false, zbool_i, zb0, zb1, zshp_0, zcs_eq, zcs_n, zcs_cs, zup_g, zup_n, zg_srock2, zg_stug2, zg_ssun, zg_ssun0, zg_srock, zg_srock0, zg_stug, zg_stug0, zg_sord, zg_sord0, zg_srep, zg_srep0, zg_scla, zg_scla0, zg_scon, zg_scon0, zg_swin, zg_swin0, zg_sleg, zg_sleg0, zg_spro, zg_sstp, zg_swrd, zu_srock2, zu_stug2, zu_ssun, zu_ssun0, zu_srock, zu_srock0, zu_stug, zu_stug0, zu_sord, zu_sord0, zu_srep, zu_srep0, zu_scla, zu_scla0, zu_scon, zu_scon0, zu_swin, zu_swin0, zu_sleg, zu_sleg0, zu_spro, zu_sstp, zu_swrd]

/-- an S, in the model -/
def zPt (L p0 p2 r2 r3 s4 : Nat) (T : Nat → Nat) (n : Nat) (x : zLx) (be N j : Nat) (G : List zUn) (c : Nat) (x' : zLx) : Prop := ∀ (d : Nat) (C : zCt) (t : Nat) (B : List (Nat × Nat)) (sm : Int32), B.length = be → zMS T n C x N j t B sm → (sm = 0 ∨ (sm = 1 ∧ x.2.2 ≠ 0 ∧ ¬ zisg T x 125)) → (zbx T x' ∧ ∃ C', zR (d + 8) 179 46 [.ref 201, .int 1] [] (zZ L, zI C, zPd p0 p2 r2 r3 s4) = some (none, (zZ L, zI C', zPd p0 p2 r2 r3 s4)) ∧ zBm C C' x'.1) ∨ (x'.2.2 ≠ 5 ∧ ∃ C', zR (d + 8) 179 46 [.ref 201, .int 1] [] (zZ L, zI C, zPd p0 p2 r2 r3 s4) = zR (d + 8) 179 46 [.ref 201, .int 1] [] (zZ L, zI C', zPd p0 p2 r2 r3 s4) ∧ zMS T n C' x' (N + G.length) (j + zwc G) (t + c) B 1 ∧ zFS N j C C' ∧ zgs (C' 405 0) (C' 406 0) N j G)
def zPf (L p0 p2 r2 r3 s4 : Nat) (T : Nat → Nat) (n : Nat) (x : zLx) (be N j : Nat) (x' : zLx) : Prop := ∀ (d : Nat) (C : zCt) (t : Nat) (B : List (Nat × Nat)) (sm : Int32), B.length = be → zMS T n C x N j t B sm → (sm = 0 ∨ (sm = 1 ∧ x.2.2 ≠ 0 ∧ ¬ zisg T x 125)) → ∃ C', zR (d + 8) 179 46 [.ref 201, .int 1] [] (zZ L, zI C, zPd p0 p2 r2 r3 s4) = some (none, (zZ L, zI C', zPd p0 p2 r2 r3 s4)) ∧ zBm C C' x'.1
theorem zsm_w {w : Nat} (hw : w < 15) : zsm (zWK w) = if 2 ≤ w ∧ w ≤ 10 then w + 1 else 0 := by
  rcases (show w = 0 ∨ w = 1 ∨ w = 2 ∨ w = 3 ∨ w = 4 ∨ w = 5 ∨ w = 6 ∨ w = 7 ∨ w = 8 ∨ w = 9 ∨ w = 10 ∨ w = 11 ∨ w = 12 ∨ w = 13 ∨ w = 14 by omega) with rfl | rfl | rfl | rfl | rfl | rfl | rfl | rfl | rfl | rfl | rfl | rfl | rfl | rfl | rfl <;> rfl
theorem zsm_0 {V : Nat} (h : ∀ w, w < 14 → V ≠ zWK w) : zsm V = 0 := by
  unfold zsm
  rw [if_neg (show ¬ V = 89759 from h 2 (by decide)), if_neg (show ¬ V = 131360 from h 3 (by decide)), if_neg (show ¬ V = 3166 from h 4 (by decide)), if_neg (show ¬ V = 256910 from h 5 (by decide)), if_neg (show ¬ V = 144941 from h 6 (by decide)), if_neg (show ¬ V = 10497936 from h 7 (by decide)), if_neg (show ¬ V = 379948 from h 8 (by decide)), if_neg (show ¬ V = 1831504 from h 9 (by decide)), if_neg (show ¬ V = 453701 from h 10 (by decide))]
theorem zbm_wr {T : Nat → Nat} {n : Nat} {C : zCt} {x : zLx} (h5 : C 401 0 5 = nI x.1) : zBm C (zcs C 401 (zup (zup (C 401) 0 9 (nI x.1)) 0 10 1)) x.1 := ⟨by rw [zcs_eq, zup_g], by rw [zcs_eq, zup_n _ _ (by omega), zup_g], zFS_4 (fun f a0 a1 a2 a3 a4 a5 a6 a7 a8 a9 a10 a11 a12 => by rw [zup_n _ _ (by omega), zup_n _ _ (by omega)])⟩

theorem P_none (L p0 p2 r2 r3 s4 : Nat) (T : Nat → Nat) (n : Nat) (x : zLx) (be N j : Nat) (hk : zTk T n x) (hV : ∀ w, w < 14 → zV T x ≠ zWK w) : zPf L p0 p2 r2 r3 s4 T n x be N j x := by
  intro d C t B sm hbe hC hsm
  obtain ⟨hM, h13, h14, h15, h18, hB, hbk, h19, hx⟩ := id hC
  have h120 := hM.1.2.1
  have hn := hk.2.1
  have h1' := hk.1
  have t1 := M189_n d L p0 p2 r2 r3 s4 C hM hk h14 h15 (zsm_0 hV)
  have p1 := zc1_M (t := t) hM
  have tw := M182 (d + 6) L p0 p2 r2 r3 s4 (zc1 C t) p1.2.2.2.2
  rw [p1.2.2.1] at tw
  have k0 : ¬ lg_cmp (zlw T x) (Int64.ofNat 985) = 0 := fun q => hV 0 (by decide) ((zlw_eq (T := T) hk (k := 985) (by decide) (by decide)).mp q)
  have k1 : ¬ lg_cmp (zlw T x) (Int64.ofNat 55175) = 0 := fun q => hV 1 (by decide) ((zlw_eq (T := T) hk (k := 55175) (by decide) (by decide)).mp q)
  have k11 : ¬ lg_cmp (zlw T x) (Int64.ofNat 11450658) = 0 := fun q => hV 11 (by decide) ((zlw_eq (T := T) hk (k := 11450658) (by decide) (by decide)).mp q)
  have k12 : ¬ lg_cmp (zlw T x) (Int64.ofNat 249) = 0 := fun q => hV 12 (by decide) ((zlw_eq (T := T) hk (k := 249) (by decide) (by decide)).mp q)
  have k13 : ¬ lg_cmp (zlw T x) (Int64.ofNat 12387497) = 0 := fun q => hV 13 (by decide) ((zlw_eq (T := T) hk (k := 12387497) (by decide) (by decide)).mp q)
  have hr : zR (d + 7) 189 0 [.ref 201, zmk, zmk, zmk, zmk, zmk] [] (zZ L, zI C, zPd p0 p2 r2 r3 s4) = some (none, (zZ L, zI (zcs (zc1 C t) 401 (zup (zup ((zc1 C t) 401) 0 9 (nI x.1)) 0 10 1)), zPd p0 p2 r2 r3 s4)) := by
    rw [t1]
    unfold l89
    simp +decide (disch := omega) only [e189_51, e189_63, e189_85, e189_98, e189_153, e189_167, e189_195, e189_206, e189_210, e189_224, e189_296, e189_300, t187_aim, t187_burn, t187_until, t187_if, t187_while, k0, k1, k11, k12, k13, tw, List.cons_append, List.nil_append, zpre, ite_self, Nat.reduceAdd, zs1, zs2, zs3, zI_eqb, and_self, not_true_eq_false, if_true, if_false, ite_true, ite_false, not_false_eq_true, zBP, zBZ, zisO, zisA, zlen, decide_true, decide_false, Bool.and_self, Bool.and_true, Bool.true_and, cond_true, cond_false, zBG, zBR, zBU, zBV, zinb_n, zix_n, zlA, zlB, zlM, zlN, zlX, zlI, nI_add, Nat.add_eq_zero_iff, false_and, and_false, and_true, true_and, true_or, or_true, false_or, or_false, zbool_i, zb0, zb1, zshp_0, zcs_eq, zcs_n, zcs_cs, zup_g, zup_n, zg_srock2, zg_stug2, zg_ssun, zg_ssun0, zg_srock, zg_srock0, zg_stug, zg_stug0, zg_sord, zg_sord0, zg_srep, zg_srep0, zg_scla, zg_scla0, zg_scon, zg_scon0, zg_swin, zg_swin0, zg_sleg, zg_sleg0, zg_spro, zg_sstp, zg_swrd, zu_srock2, zu_stug2, zu_ssun, zu_ssun0, zu_srock, zu_srock0, zu_stug, zu_stug0, zu_sord, zu_sord0, zu_srep, zu_srep0, zu_scla, zu_scla0, zu_scon, zu_scon0, zu_swin, zu_swin0, zu_sleg, zu_sleg0, zu_spro, zu_sstp, zu_swrd]
  refine ⟨_, (H_s d L p0 p2 r2 r3 s4 C _ hk hC hsm hr).trans (H_bad d L p0 p2 r2 r3 s4 _ (by rw [zcs_eq, zup_g])), zBm_t (zc1_F (N := 0) (j := 0)) (zbm_wr (T := T) (n := n) p1.2.2.1)⟩
theorem P_simple (L p0 p2 r2 r3 s4 : Nat) (T : Nat → Nat) (n : Nat) (x : zLx) (be N j : Nat) (hk : zTk T n x) (w : Nat) (hw1 : 2 ≤ w) (hw2 : w ≤ 10) (hV : zV T x = zWK w) : zPt L p0 p2 r2 r3 s4 T n x be N j [([], (nI (w + 1), 0, 0, 0), (nI w, 0))] 1 (zadv T n x) := by
  have hkind := zV_1 (by omega) hV
  have ha := zadv_k T n x hk.2.1
  have hlt := hk.2.2.2.2.1 (by rw [hkind]; decide)
  intro d C t B sm hbe hC hsm
  obtain ⟨hM, h13, h14, h15, h18, hB, hbk, h19, hx⟩ := id hC
  have h120 := hM.1.2.1
  have hn := hk.2.1
  have h1' := hk.1
  have hz : zsm (zV T x) = w + 1 := by rw [hV, zsm_w (by omega), if_pos ⟨hw1, hw2⟩]
  have t1 := M189_s d L p0 p2 r2 r3 s4 C hM hk h14 h15 (by omega)
  rw [hz] at t1
  have p1 := zc1_M (t := t) hM
  have k13 : zc1 C t 401 0 13 = nI N := by rw [zc1_f (by decide) (by decide)]; exact h13
  have t2 := M185 (d + 6) L p0 p2 r2 r3 s4 (zc1 C t) (N := N) (by omega) k13 (nI (w + 1)) 0 0 0
  obtain ⟨C2, hC2⟩ : ∃ C2, C2 = zsp (zc1 C t) N (nI (w + 1)) 0 0 0 := ⟨_, rfl⟩
  rw [← hC2] at t2
  have p2' : zPM T n C2 x := by
    unfold zPM zMT at *
    rw [hC2, zsp_f (by decide), zsp_f (by decide), zsp_f (by decide), zsp_f (by decide), zsp_f (by decide), zsp_g (by decide) (by decide)]
    exact p1
  obtain ⟨F, t3, f2, f3⟩ := M180 (d + 4) L p0 p2 r2 r3 s4 C2 p2' hk.2.1 (by rw [hkind]; decide)
  have fr : zFS N j C (zcs C2 401 F) := zFS_t zc1_F (zFS_t (by rw [hC2]; exact zFS_st) (zFS_4 (fun f a0 a1 a2 a3 a4 a5 a6 a7 a8 a9 a10 a11 a12 => f3 f a0 a1 a2 a3 a4)) (Nat.le_refl _) (Nat.le_refl _)) (Nat.le_refl _) (Nat.le_refl _)
  have hr : zR (d + 7) 189 0 [.ref 201, zmk, zmk, zmk, zmk, zmk] [] (zZ L, zI C, zPd p0 p2 r2 r3 s4) = some (none, (zZ L, zI (zcs C2 401 F), zPd p0 p2 r2 r3 s4)) := by
    rw [t1]
    unfold l89
    simp +decide (disch := omega) only [e189_36, e189_44, e189_48, e189_300, t2, t3, zpre, ite_self, Nat.reduceAdd, zs1, zs2, zs3, zI_eqb, and_self, not_true_eq_false, if_true, if_false, ite_true, ite_false, not_false_eq_true, zBP, zBZ, zisO, zisA, zlen, decide_true, decide_false, Bool.and_self, Bool.and_true, Bool.true_and, cond_true, cond_false, zBG, zBR, zBU, zBV, zinb_n, zix_n, zlA, zlB, zlM, zlN, zlX, zlI, nI_add, Nat.add_eq_zero_iff, false_and, and_false, and_true, true_and, true_or, or_true, false_or, or_false, zbool_i, zb0, zb1, zshp_0, zcs_eq, zcs_n, zcs_cs, zup_g, zup_n, zg_srock2, zg_stug2, zg_ssun, zg_ssun0, zg_srock, zg_srock0, zg_stug, zg_stug0, zg_sord, zg_sord0, zg_srep, zg_srep0, zg_scla, zg_scla0, zg_scon, zg_scon0, zg_swin, zg_swin0, zg_sleg, zg_sleg0, zg_spro, zg_sstp, zg_swrd, zu_srock2, zu_stug2, zu_ssun, zu_ssun0, zu_srock, zu_srock0, zu_stug, zu_stug0, zu_sord, zu_sord0, zu_srep, zu_srep0, zu_scla, zu_scla0, zu_scon, zu_scon0, zu_swin, zu_swin0, zu_sleg, zu_sleg0, zu_spro, zu_sstp, zu_swrd]
  have hH := H_s d L p0 p2 r2 r3 s4 C _ hk hC hsm hr
  rcases f2 with ⟨e5, f2⟩ | ⟨e5, f4, f5, _⟩
  · refine Or.inr ⟨e5, _, hH, ⟨f2, ?_, ?_, ?_, ?_, hB, ?_, ?_, ?_⟩, fr, ?_⟩
    · rw [zcs_eq, f3 13 (by decide) (by decide) (by decide) (by decide) (by decide), hC2, zsp_13]; rfl
    · rw [zcs_eq, f3 14 (by decide) (by decide) (by decide) (by decide) (by decide), hC2, zsp_f (by decide), zc1_f (by decide) (by decide)]; exact h14
    · rw [zcs_eq, f3 15 (by decide) (by decide) (by decide) (by decide) (by decide), hC2, zsp_f (by decide), zc1_15.1]
    · rw [zcs_eq, f3 18 (by decide) (by decide) (by decide) (by decide) (by decide), hC2, zsp_f (by decide), zc1_f (by decide) (by decide)]; exact h18
    · rw [zcs_n _ _ (by decide), zcs_n _ _ (by decide), hC2, zsp_g (by decide) (by decide), zsp_g (by decide) (by decide), zc1_g (by decide), zc1_g (by decide)]; exact hbk
    · rw [zcs_eq, f3 19 (by decide) (by decide) (by decide) (by decide) (by decide), hC2, zsp_f (by decide), zc1_15.2]
    · simp only [List.length_cons, List.length_nil, zwc]; omega
    · refine ⟨?_, trivial, trivial⟩
      rw [zcs_n _ _ (by decide), hC2]
      exact zsp_s
  · exact Or.inl ⟨Or.inl e5, _, hH.trans (H_bad d L p0 p2 r2 r3 s4 _ (by rw [zcs_eq]; exact f4)), by rw [zcs_eq]; exact f4, by rw [zcs_eq]; exact f5, zFS_t (zFS_t fr (show zFS N j _ _ from ⟨fun _ _ _ _ _ _ _ => rfl, fun _ _ _ _ _ _ _ _ _ _ _ _ _ _ => rfl, fun _ _ => rfl, fun _ _ => rfl⟩) (Nat.le_refl _) (Nat.le_refl _) |> fun q => ⟨q.1, q.2.1, fun i hi => absurd hi (by omega), fun i hi => absurd hi (by omega)⟩) (show zFS 0 0 _ _ from ⟨fun _ _ _ _ _ _ _ => rfl, fun _ _ _ _ _ _ _ _ _ _ _ _ _ _ => rfl, fun _ _ => rfl, fun _ _ => rfl⟩) (Nat.le_refl _) (Nat.le_refl _)⟩

