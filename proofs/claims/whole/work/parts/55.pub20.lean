/-! NEAR MISSES (2), printed by wip/gen/pub20.py -/
theorem e234_71v (d : Nat) (Z : List (Nat × Nat)) (I : Nat → Nat → Int32) (P : Nat → Nat → Nat) (r0 : Nat) (x1 x2 x3 x4 x5 x6 x7 x8 x9 : Int32) (v10 : Value) : zR d 234 71 [.ref r0, .int x1, .int x2, .int x3, .int x4, .int x5, .int x6, .int x7, .int x8, .int x9, v10] [] (Z, I, P) = (if x3 < x9 then zR d 234 170 [.ref r0, .int x1, .int x2, .int x3, .int x4, .int x5, .int x6, .int x7, .int x8, .int x9, v10] [] (Z, I, P) else zR d 234 77 [.ref r0, .int x1, .int x2, .int x3, .int x4, .int x5, .int x6, .int x7, .int x8, .int x9, v10] [] (Z, I, P)) := zE_br (g := true) (p := x3 < x9) (t := 170) (f := 77) zK234 rfl zi234 39 3 rfl
theorem zab_i (x : Int32) (h : -40000000 ≤ x.toInt ∧ x.toInt ≤ 40000000) : (zab x).toInt = if x.toInt < 0 then - x.toInt else x.toInt := by
  unfold zab
  have z : (0 : Int32).toInt = 0 := rfl
  by_cases e : x < 0
  · have e2 := Int32.lt_iff_toInt_lt.mp e
    rw [z] at e2
    rw [if_pos e, if_pos e2, zneg_i (by omega)]
  · have e2 := Int32.le_iff_toInt_le.mp (Int32.not_lt.mp e)
    rw [z] at e2
    rw [if_neg e, if_neg (by omega)]
theorem zsub_i {x y : Int32} (hx : zB x) (hy : zB y) : (x - y).toInt = x.toInt - y.toInt ∧ -19999998 ≤ x.toInt - y.toInt ∧ x.toInt - y.toInt ≤ 19999998 := by
  have a1 := Int32.le_iff_toInt_le.mp hx.1
  have a2 := Int32.le_iff_toInt_le.mp hx.2
  have a3 := Int32.le_iff_toInt_le.mp hy.1
  have a4 := Int32.le_iff_toInt_le.mp hy.2
  have b1 : (9999999 : Int32).toInt = 9999999 := rfl
  have b2 : (-9999999 : Int32).toInt = -9999999 := rfl
  rw [b1] at a2 a4
  rw [b2] at a1 a3
  refine ⟨?_, by omega, by omega⟩
  rw [Int32.toInt_sub]
  unfold Int.bmod
  dsimp only
  split <;> omega
theorem zfar_i (x y : Int32) (hx : -20000000 ≤ x.toInt ∧ x.toInt ≤ 20000000) (hy : -20000000 ≤ y.toInt ∧ y.toInt ≤ 20000000) : 0 ≤ (zfar x y).toInt ∧ (zfar x y).toInt ≤ 30000000 := by
  have a := zab_i x (by omega)
  have b := zab_i y (by omega)
  have t : (2 : Int32).toInt = 2 := rfl
  have ha : 0 ≤ (zab x).toInt ∧ (zab x).toInt ≤ 20000000 := by rw [a]; split <;> omega
  have hb : 0 ≤ (zab y).toInt ∧ (zab y).toInt ≤ 20000000 := by rw [b]; split <;> omega
  have d1 := lg_idiv_nonneg (x := zab x) (y := 2) ha.1 (by rw [t]; decide)
  have d2 := lg_idiv_nonneg (x := zab y) (y := 2) hb.1 (by rw [t]; decide)
  rw [t] at d1 d2
  unfold zfar
  by_cases e : zab y < zab x
  · have e2 := Int32.lt_iff_toInt_lt.mp e
    rw [if_pos e, Int32.toInt_add, d2]
    unfold Int.bmod
    dsimp only
    split <;> omega
  · have e2 := Int32.le_iff_toInt_le.mp (Int32.not_lt.mp e)
    rw [if_neg e, Int32.toInt_add, d1]
    unfold Int.bmod
    dsimp only
    split <;> omega
theorem zfq_pos {a b : zQ} (ha : zBq a) (hb : zBq b) : 0 ≤ zfq a b := by
  have h1 := zsub_i hb.1 ha.1
  have h2 := zsub_i hb.2.1 ha.2.1
  have h := zfar_i (b.1 - a.1) (b.2.1 - a.2.1) (by omega) (by omega)
  exact Int32.le_iff_toInt_le.mpr h.1
theorem znsub (a b : Int32) : a - b = 0 - (b - a) := by
  rw [Int32.zero_sub, Int32.neg_sub]
theorem zfq_m (a b : zQ) : zfar (a.1 - b.1) (a.2.1 - b.2.1) = zfq a b := by
  rw [znsub a.1 b.1, znsub a.2.1 b.2.1, zfar_neg]
  rfl
def zidx (C : zCt) (nr nt a : Nat) : Prop := a < nr ∨ ∃ t, t < nt ∧ a = 8 + t ∧ C 43 t 9 = -1
/-- all bodies that drift lie within bounds -/
def zBall (C : zCt) (nr nt : Nat) : Prop := ∀ a, zidx C nr nt a → zBq (zqd (C 411 0) (4 * a))
theorem T226b (d L p0 p2 r2 r3 s4 ns nr nt : Nat) (C : zCt) (v : Value) (hn3 : ns ≤ 3) (hr8 : nr ≤ 8) (ht4 : nt ≤ 4) (hn : C 40 0 4 = nI ns) (hr : C 40 0 5 = nI nr) (ht : C 40 0 6 = nI nt) (hB : zBall C nr nt) : ∃ F, zR (d + 4) 226 0 [.ref 201, v] [] (zZ L, zI C, zPd p0 p2 r2 r3 s4) = some (none, (zZ L, zI (zcs C 411 F), zPd p0 p2 r2 r3 s4)) ∧ ∀ a, zidx C nr nt a → zqd (F 0) (4 * a) = zdr (C 41) ns (zqd (C 411 0) (4 * a)) := by
  obtain ⟨F, f1, f2, f3⟩ := T226 d L p0 p2 r2 r3 s4 ns nr nt C v hn3 hr8 ht4 hn hr ht (fun b hb => hB b (Or.inl hb)) (fun t ht h => hB _ (Or.inr ⟨t, ht, rfl, h⟩))
  refine ⟨F, f1, fun a ha => ?_⟩
  rcases ha with ha | ⟨t, ht, rfl, h⟩
  · exact f2 a ha
  · rw [f3 t ht, if_pos h]
theorem T234_71 (d L p0 p2 r2 r3 s4 ns nr nt n a b : Nat) (x1 x2 wh : Int32) (hn3 : ns ≤ 3) (hr8 : nr ≤ 8) (ht4 : nt ≤ 4) (hn60 : n ≤ 60) : ∀ (m k : Nat) (C : zCt) (l w : Int32) (v10 : Value) (Q1 Q2 : zQ), C 40 0 4 = nI ns → C 40 0 5 = nI nr → C 40 0 6 = nI nt → zBall C nr nt → zidx C nr nt a → zidx C nr nt b → zqd (C 411 0) (4 * a) = zdr (C 41) ns Q1 → zqd (C 411 0) (4 * b) = zdr (C 41) ns Q2 → 0 ≤ l → k + m = n + 1 → ∃ F, zR (d + 6) 234 71 [.ref 201, .int x1, .int x2, .int (nI n), .int wh, .int (nI (4 * a)), .int (nI (4 * b)), .int l, .int w, .int (nI k), v10] [] (zZ L, zI C, zPd p0 p2 r2 r3 s4) = some (some (.int (if wh = 0 then (zms (C 41) ns m k Q1 Q2 l w).1 else (zms (C 41) ns m k Q1 Q2 l w).2)), (zZ L, zI (zcs C 411 F), zPd p0 p2 r2 r3 s4)) := by
  intro m
  induction m with
  | zero =>
    intro k C l w v10 Q1 Q2 hn hr ht hB ha hb hq1 hq2 hl hk
    have hlt : nI n < nI k := nI_lt (by omega) (by omega)
    refine ⟨C 411, ?_⟩
    rw [zcs_self, e234_71v, if_pos hlt, e234_170]
    unfold zms
    by_cases h : wh = 0
    · rw [if_neg (Classical.not_not.mpr h), e234_175, e234_182, if_pos h]
    · rw [if_pos h, e234_180, e234_182, if_neg h]
  | succ m ih =>
    intro k C l w v10 Q1 Q2 hn hr ht hB ha hb hq1 hq2 hl hk
    have hlt : ¬ nI n < nI k := nI_nlt (by omega) (by omega)
    have hlm : ¬ l = -1 := fun e => by rw [e] at hl; exact absurd hl (by decide)
    have ha12 : a < 12 := by rcases ha with ha | ⟨t, h1, rfl, _⟩ <;> omega
    have hb12 : b < 12 := by rcases hb with hb | ⟨t, h1, rfl, _⟩ <;> omega
    obtain ⟨F, f1, f2⟩ := T226b (d + 1) L p0 p2 r2 r3 s4 ns nr nt C zmk hn3 hr8 ht4 hn hr ht hB
    have o : ∀ g, g ≠ 411 → zcs C 411 F g = C g := fun g e => zcs_n _ _ e
    have hidx : ∀ c, zidx (zcs C 411 F) nr nt c = zidx C nr nt c := fun c => by unfold zidx; rw [o 43 (by decide)]
    have hB' : zBall (zcs C 411 F) nr nt := by
      intro c hc
      rw [hidx] at hc
      rw [zcs_eq, f2 c hc]
      exact zdr_B _ _ (hB c hc)
    have q1' : zqd (zcs C 411 F 411 0) (4 * a) = zdr (C 41) ns (zdr (C 41) ns Q1) := by rw [zcs_eq, f2 a ha, hq1]
    have q2' : zqd (zcs C 411 F 411 0) (4 * b) = zdr (C 41) ns (zdr (C 41) ns Q2) := by rw [zcs_eq, f2 b hb, hq2]
    have hfa : zfar (C 411 0 (4 * a) - C 411 0 (4 * b)) (C 411 0 (4 * a + 1) - C 411 0 (4 * b + 1)) = zfq (zdr (C 41) ns Q1) (zdr (C 41) ns Q2) := by
      rw [← hq1, ← hq2]
      exact zfq_m (zqd (C 411 0) (4 * a)) (zqd (C 411 0) (4 * b))
    have hfp : 0 ≤ zfq (zdr (C 41) ns Q1) (zdr (C 41) ns Q2) := by
      rw [← hq1, ← hq2]
      exact zfq_pos (hB a ha) (hB b hb)
    rw [e234_71v, if_neg hlt]
    unfold zms
    by_cases hlf : zfq (zdr (C 41) ns Q1) (zdr (C 41) ns Q2) < l
    · have hl2 := Int32.not_le.mpr hlf
      obtain ⟨G, g⟩ := ih (k + 1) (zcs C 411 F) (zfq (zdr (C 41) ns Q1) (zdr (C 41) ns Q2)) (nI k) (.int (zfq (zdr (C 41) ns Q1) (zdr (C 41) ns Q2))) (zdr (C 41) ns Q1) (zdr (C 41) ns Q2) (by rw [o _ (by decide)]; exact hn) (by rw [o _ (by decide)]; exact hr) (by rw [o _ (by decide)]; exact ht) hB' (by rw [hidx]; exact ha) (by rw [hidx]; exact hb) (by rw [o 41 (by decide)]; exact q1') (by rw [o 41 (by decide)]; exact q2') hfp (by omega)
      rw [zcs_cs, o 41 (by decide)] at g
      refine ⟨G, ?_⟩
      rw [if_pos hlf, ← g]
      simp +decide (disch := omega) only [e234_77, e234_114, e234_122, e234_129, e234_134, e234_136, e234_144, e234_151, e234_156, e234_158, e234_164, T201, hfa, hlm, hl2, f1, zpre, ite_self, Nat.reduceAdd, zs1, zs2, zs3, zI_eqb, and_self, not_true_eq_false, if_true, if_false, ite_true, ite_false, not_false_eq_true, zBP, zBZ, zisO, zisA, zlen, decide_true, decide_false, Bool.and_self, Bool.and_true, Bool.true_and, cond_true, cond_false, zBG, zBR, zBU, zBV, zinb_n, zix_n, zlA, zlB, zlM, zlN, zlX, zlI, nI_add, Nat.add_eq_zero_iff, false_and, and_false, and_true, true_and, true_or, or_true, false_or, or_false, zbool_i, zb0, zb1, zshp_0, zcs_eq, zcs_n, zcs_cs, zup_g, zup_n, zg_srock2, zg_stug2, zg_ssun, zg_ssun0, zg_srock, zg_srock0, zg_stug, zg_stug0, zg_sord, zg_sord0, zg_srep, zg_srep0, zg_scla, zg_scla0, zg_scon, zg_scon0, zg_swin, zg_swin0, zg_sleg, zg_sleg0, zg_spro, zg_sstp, zg_swrd, zu_srock2, zu_stug2, zu_ssun, zu_ssun0, zu_srock, zu_srock0, zu_stug, zu_stug0, zu_sord, zu_sord0, zu_srep, zu_srep0, zu_scla, zu_scla0, zu_scon, zu_scon0, zu_swin, zu_swin0, zu_sleg, zu_sleg0, zu_spro, zu_sstp, zu_swrd]
    · have hl2 := Int32.not_lt.mp hlf
      obtain ⟨G, g⟩ := ih (k + 1) (zcs C 411 F) l w (.int (zfq (zdr (C 41) ns Q1) (zdr (C 41) ns Q2))) (zdr (C 41) ns Q1) (zdr (C 41) ns Q2) (by rw [o _ (by decide)]; exact hn) (by rw [o _ (by decide)]; exact hr) (by rw [o _ (by decide)]; exact ht) hB' (by rw [hidx]; exact ha) (by rw [hidx]; exact hb) (by rw [o 41 (by decide)]; exact q1') (by rw [o 41 (by decide)]; exact q2') hl (by omega)
      rw [zcs_cs, o 41 (by decide)] at g
      refine ⟨G, ?_⟩
      rw [if_neg hlf, ← g]
      simp +decide (disch := omega) only [e234_77, e234_114, e234_122, e234_129, e234_134, e234_136, e234_144, e234_151, e234_156, e234_158, e234_164, T201, hfa, hlm, hl2, f1, zpre, ite_self, Nat.reduceAdd, zs1, zs2, zs3, zI_eqb, and_self, not_true_eq_false, if_true, if_false, ite_true, ite_false, not_false_eq_true, zBP, zBZ, zisO, zisA, zlen, decide_true, decide_false, Bool.and_self, Bool.and_true, Bool.true_and, cond_true, cond_false, zBG, zBR, zBU, zBV, zinb_n, zix_n, zlA, zlB, zlM, zlN, zlX, zlI, nI_add, Nat.add_eq_zero_iff, false_and, and_false, and_true, true_and, true_or, or_true, false_or, or_false, zbool_i, zb0, zb1, zshp_0, zcs_eq, zcs_n, zcs_cs, zup_g, zup_n, zg_srock2, zg_stug2, zg_ssun, zg_ssun0, zg_srock, zg_srock0, zg_stug, zg_stug0, zg_sord, zg_sord0, zg_srep, zg_srep0, zg_scla, zg_scla0, zg_scon, zg_scon0, zg_swin, zg_swin0, zg_sleg, zg_sleg0, zg_spro, zg_sstp, zg_swrd, zu_srock2, zu_stug2, zu_ssun, zu_ssun0, zu_srock, zu_srock0, zu_stug, zu_stug0, zu_sord, zu_sord0, zu_srep, zu_srep0, zu_scla, zu_scla0, zu_scon, zu_scon0, zu_swin, zu_swin0, zu_sleg, zu_sleg0, zu_spro, zu_sstp, zu_swrd]
theorem T234_71z (d L p0 p2 r2 r3 s4 ns nr nt n a b : Nat) (x1 x2 wh : Int32) (hn3 : ns ≤ 3) (hr8 : nr ≤ 8) (ht4 : nt ≤ 4) (hn60 : n ≤ 60) (C : zCt) (v10 : Value) (Q1 Q2 : zQ) (hn : C 40 0 4 = nI ns) (hr : C 40 0 5 = nI nr) (ht : C 40 0 6 = nI nt) (hB : zBall C nr nt) (ha : zidx C nr nt a) (hb : zidx C nr nt b) (hq1 : zqd (C 411 0) (4 * a) = Q1) (hq2 : zqd (C 411 0) (4 * b) = Q2) : ∃ F, zR (d + 6) 234 71 [.ref 201, .int x1, .int x2, .int (nI n), .int wh, .int (nI (4 * a)), .int (nI (4 * b)), .int (-1), .int 0, .int 0, v10] [] (zZ L, zI C, zPd p0 p2 r2 r3 s4) = some (some (.int (if wh = 0 then (zms (C 41) ns n 1 Q1 Q2 (zfq Q1 Q2) 0).1 else (zms (C 41) ns n 1 Q1 Q2 (zfq Q1 Q2) 0).2)), (zZ L, zI (zcs C 411 F), zPd p0 p2 r2 r3 s4)) := by
  have hlt : ¬ nI n < 0 := nI_pos (by omega)
  have ha12 : a < 12 := by rcases ha with ha | ⟨t, h1, rfl, _⟩ <;> omega
  have hb12 : b < 12 := by rcases hb with hb | ⟨t, h1, rfl, _⟩ <;> omega
  obtain ⟨F, f1, f2⟩ := T226b (d + 1) L p0 p2 r2 r3 s4 ns nr nt C zmk hn3 hr8 ht4 hn hr ht hB
  have o : ∀ g, g ≠ 411 → zcs C 411 F g = C g := fun g e => zcs_n _ _ e
  have hidx : ∀ c, zidx (zcs C 411 F) nr nt c = zidx C nr nt c := fun c => by unfold zidx; rw [o 43 (by decide)]
  have hB' : zBall (zcs C 411 F) nr nt := by
    intro c hc
    rw [hidx] at hc
    rw [zcs_eq, f2 c hc]
    exact zdr_B _ _ (hB c hc)
  have hfa : zfar (C 411 0 (4 * a) - C 411 0 (4 * b)) (C 411 0 (4 * a + 1) - C 411 0 (4 * b + 1)) = zfq Q1 Q2 := by
    rw [← hq1, ← hq2]
    exact zfq_m (zqd (C 411 0) (4 * a)) (zqd (C 411 0) (4 * b))
  have hfp : 0 ≤ zfq Q1 Q2 := by
    rw [← hq1, ← hq2]
    exact zfq_pos (hB a ha) (hB b hb)
  obtain ⟨G, g⟩ := T234_71 d L p0 p2 r2 r3 s4 ns nr nt n a b x1 x2 wh hn3 hr8 ht4 hn60 n 1 (zcs C 411 F) (zfq Q1 Q2) 0 (.int (zfq Q1 Q2)) Q1 Q2 (by rw [o _ (by decide)]; exact hn) (by rw [o _ (by decide)]; exact hr) (by rw [o _ (by decide)]; exact ht) hB' (by rw [hidx]; exact ha) (by rw [hidx]; exact hb) (by rw [o 41 (by decide), zcs_eq, f2 a ha, hq1]) (by rw [o 41 (by decide), zcs_eq, f2 b hb, hq2]) hfp (by omega)
  rw [zcs_cs, o 41 (by decide), zn1] at g
  refine ⟨G, ?_⟩
  rw [← g, e234_71v, if_neg hlt]
  simp +decide (disch := omega) only [e234_77, e234_114, e234_122, e234_129, e234_134, e234_136, e234_144, e234_151, e234_156, e234_158, e234_164, T201, hfa, f1, zli, zpre, ite_self, Nat.reduceAdd, zs1, zs2, zs3, zI_eqb, and_self, not_true_eq_false, if_true, if_false, ite_true, ite_false, not_false_eq_true, zBP, zBZ, zisO, zisA, zlen, decide_true, decide_false, Bool.and_self, Bool.and_true, Bool.true_and, cond_true, cond_false, zBG, zBR, zBU, zBV, zinb_n, zix_n, zlA, zlB, zlM, zlN, zlX, zlI, nI_add, Nat.add_eq_zero_iff, false_and, and_false, and_true, true_and, true_or, or_true, false_or, or_false, zbool_i, zb0, zb1, zshp_0, zcs_eq, zcs_n, zcs_cs, zup_g, zup_n, zg_srock2, zg_stug2, zg_ssun, zg_ssun0, zg_srock, zg_srock0, zg_stug, zg_stug0, zg_sord, zg_sord0, zg_srep, zg_srep0, zg_scla, zg_scla0, zg_scon, zg_scon0, zg_swin, zg_swin0, zg_sleg, zg_sleg0, zg_spro, zg_sstp, zg_swrd, zu_srock2, zu_stug2, zu_ssun, zu_ssun0, zu_srock, zu_srock0, zu_stug, zu_stug0, zu_sord, zu_sord0, zu_srep, zu_srep0, zu_scla, zu_scla0, zu_scon, zu_scon0, zu_swin, zu_swin0, zu_sleg, zu_sleg0, zu_spro, zu_sstp, zu_swrd]

theorem T134p (d L p0 p2 r2 r3 s4 n t : Nat) (C : zCt) (x : Int32) (hn8 : n ≤ 8) (ht4 : t ≤ 4) (hn : C 0 0 5 = nI n) (ht : C 0 0 6 = nI t) : zR (d + 2) 134 0 [.ref 1, .int x] [] (zZ L, zI C, zPd p0 p2 r2 r3 s4) = some (some (.int (@ite Int32 (zVb n t x) (Classical.propDecidable _) 1 0)), (zZ L, zI C, zPd p0 p2 r2 r3 s4)) := by
  obtain ⟨v, h1, h2⟩ := T134 d L p0 p2 r2 r3 s4 n t C x hn8 hn ht
  rw [h1]
  rcases h2 with ⟨rfl, h⟩ | ⟨rfl, h⟩
  · rw [if_pos h]
  · rw [if_neg h]
theorem T235p (d L p0 p2 r2 r3 s4 n t : Nat) (C : zCt) (x : Int32) (hn8 : n ≤ 8) (ht4 : t ≤ 4) (hn : C 40 0 5 = nI n) (ht : C 40 0 6 = nI t) : zR (d + 2) 235 0 [.ref 201, .int x] [] (zZ L, zI C, zPd p0 p2 r2 r3 s4) = some (some (.int (@ite Int32 (zVb n t x) (Classical.propDecidable _) 1 0)), (zZ L, zI C, zPd p0 p2 r2 r3 s4)) := by
  obtain ⟨v, h1, h2⟩ := T235 d L p0 p2 r2 r3 s4 n t C x hn8 ht4 hn ht
  rw [h1]
  rcases h2 with ⟨rfl, h⟩ | ⟨rfl, h⟩
  · rw [if_pos h]
  · rw [if_neg h]
theorem pr_miss (d L : Nat) (C : zCt) (hR : zRep C) (x x2 k wh : Int32) : zPair d 133 234 [.ref 1, .int x, .int x2, .int k, .int wh, zmk, zmk, zmk, zmk] [.ref 201, .int x, .int x2, .int k, .int wh, zmk, zmk, zmk, zmk, zmk, zmk] L C := by
  obtain ⟨⟨w, hG, hS, hRR, hT, hO, hE, hC, hK, hW, hL, hP⟩, hX⟩ := id hR
  have hGe := zRG_e hG
  rintro ⟨p0, p2, r2, r3, s4⟩
  obtain ⟨n4, hn48, hn4⟩ := hG.2.2.2.2.2.1
  obtain ⟨n, hn8, hn⟩ := hG.2.2.2.2.2.2.1
  obtain ⟨t, ht8, ht⟩ := hG.2.2.2.2.2.2.2.1
  have hr0 : C 0 0 5 = nI n := hGe.2.2.2.2.2.1.trans hn
  have ht0 : C 0 0 6 = nI t := hGe.2.2.2.2.2.2.1.trans ht
  have hs0 : C 0 0 4 = nI n4 := hGe.2.2.2.2.1.trans hn4
  have c134 := fun d x => T134p d L p0 p2 r2 r3 s4 n t C x hn8 ht8 hr0 ht0
  have m235 := fun d x => T235p d L p0 p2 r2 r3 s4 n t C x hn8 ht8 hn ht
  by_cases h1 : zVb n t x
  case neg =>
    simp +decide (disch := omega) only [e133_0, e133_5, e133_8, e133_13, e133_16, e133_21, e133_24, e133_31, e133_34, e133_41, e133_44, T107, c134, h1, zpre, ite_self, zs1, zs2, zs3, zI_eqb, and_self, not_true_eq_false, if_true, if_false, ite_true, ite_false, not_false_eq_true, zBP, zBZ, zisO, zisA, zlen, decide_true, decide_false, Bool.and_self, Bool.and_true, Bool.true_and, cond_true, cond_false, zBG, zBR, zBU, zBV, zinb_n, zix_n, zlA, zlB, zlM, zlN, zlX, zlI, nI_add, Nat.add_eq_zero_iff, false_and, and_false, and_true, true_and, true_or, or_true, false_or, or_false, zbool_i, zb0, zb1, zshp_0, zcs_eq, zcs_n, zcs_cs, zup_g, zup_n, zp2_sun, zp2_rock, zp2_tug, zp2_contract, zp2_window, zp2_code, zp2_rbody, zp2_rstock, zp2_tfree, zp2_thold, zp2_tknown, zp2_ccells, zsh2_sun, zsh2_rock, zsh2_body, zsh2_stock, zsh2_tug, zsh2_free, zsh2_hold, zsh2_known, zsh2_contract, zsh2_window, zsh2_code, zsh2_cells, zg_nsun0, zg_nsun1, zg_nsun2, zg_nrock0, zg_nrock1, zg_nrock2, zg_nrock3, zg_nrock4, zg_nrock5, zg_nrock6, zg_nrock7, zg_nrock8, zg_nrock9, zg_nrock10, zg_nrock11, zg_nrock12, zg_nrock13, zg_nrock14, zg_ntug0, zg_ntug1, zg_ntug2, zg_ntug3, zg_ntug4, zg_ntug5, zg_ntug6, zg_ntug7, zg_ntug8, zg_ntug9, zg_ntug10, zg_ntug11, zg_ntug12, zg_ntug13, zg_ntug14, zg_ntug15, zg_ntug17, zg_ntug18, zg_ntug19, zg_ntug20, zg_ntug21, zg_ntug22, zg_ncon0, zg_ncon1, zg_ncon2, zg_ncon3, zg_ncon4, zg_ncon5, zg_ncon6, zg_nwin0, zg_nwin1, zg_nwin2, zg_nwin3, zg_nwin4, zg_nwin5, zg_ncode0, zg_ncode1, zg_ncode3, zg_nrule, zg_nstock, zg_nhold, zg_nknown, zg_nord, zg_nrep, zg_ncla, zg_ntou, zg_ncel, zu_nsun0, zu_nsun1, zu_nsun2, zu_nrock0, zu_nrock1, zu_nrock2, zu_nrock3, zu_nrock4, zu_nrock5, zu_nrock6, zu_nrock7, zu_nrock8, zu_nrock9, zu_nrock10, zu_nrock11, zu_nrock12, zu_nrock13, zu_nrock14, zu_ntug0, zu_ntug1, zu_ntug2, zu_ntug3, zu_ntug4, zu_ntug5, zu_ntug6, zu_ntug7, zu_ntug8, zu_ntug9, zu_ntug10, zu_ntug11, zu_ntug12, zu_ntug13, zu_ntug14, zu_ntug15, zu_ntug17, zu_ntug18, zu_ntug19, zu_ntug20, zu_ntug21, zu_ntug22, zu_ncon0, zu_ncon1, zu_ncon2, zu_ncon3, zu_ncon4, zu_ncon5, zu_ncon6, zu_nwin0, zu_nwin1, zu_nwin2, zu_nwin3, zu_nwin4, zu_nwin5, zu_ncode3, zu_nrule, zu_nstock, zu_nhold, zu_nknown, zu_nord, zu_nrep, zu_ncla, zu_ntou, zu_ncel]
    refine ⟨_, _, (p0, p2, r2, r3, s4), rfl, ?_⟩
    simp +decide (disch := omega) only [e234_0, e234_5, e234_8, e234_13, e234_16, e234_21, e234_28, e234_31, e234_38, e234_41, T154, m235, h1, zpre, ite_self, Nat.reduceAdd, zs1, zs2, zs3, zI_eqb, and_self, not_true_eq_false, if_true, if_false, ite_true, ite_false, not_false_eq_true, zBP, zBZ, zisO, zisA, zlen, decide_true, decide_false, Bool.and_self, Bool.and_true, Bool.true_and, cond_true, cond_false, zBG, zBR, zBU, zBV, zinb_n, zix_n, zlA, zlB, zlM, zlN, zlX, zlI, nI_add, Nat.add_eq_zero_iff, false_and, and_false, and_true, true_and, true_or, or_true, false_or, or_false, zbool_i, zb0, zb1, zshp_0, zcs_eq, zcs_n, zcs_cs, zup_g, zup_n, zg_srock2, zg_stug2, zg_ssun, zg_ssun0, zg_srock, zg_srock0, zg_stug, zg_stug0, zg_sord, zg_sord0, zg_srep, zg_srep0, zg_scla, zg_scla0, zg_scon, zg_scon0, zg_swin, zg_swin0, zg_sleg, zg_sleg0, zg_spro, zg_sstp, zg_swrd, zu_srock2, zu_stug2, zu_ssun, zu_ssun0, zu_srock, zu_srock0, zu_stug, zu_stug0, zu_sord, zu_sord0, zu_srep, zu_srep0, zu_scla, zu_scla0, zu_scon, zu_scon0, zu_swin, zu_swin0, zu_sleg, zu_sleg0, zu_spro, zu_sstp, zu_swrd]
    exact ⟨_, rfl, hR, rfl⟩
  by_cases h2 : zVb n t x2
  case neg =>
    simp +decide (disch := omega) only [e133_0, e133_5, e133_8, e133_13, e133_16, e133_21, e133_24, e133_31, e133_34, e133_41, e133_44, T107, c134, h1, h2, zpre, ite_self, zs1, zs2, zs3, zI_eqb, and_self, not_true_eq_false, if_true, if_false, ite_true, ite_false, not_false_eq_true, zBP, zBZ, zisO, zisA, zlen, decide_true, decide_false, Bool.and_self, Bool.and_true, Bool.true_and, cond_true, cond_false, zBG, zBR, zBU, zBV, zinb_n, zix_n, zlA, zlB, zlM, zlN, zlX, zlI, nI_add, Nat.add_eq_zero_iff, false_and, and_false, and_true, true_and, true_or, or_true, false_or, or_false, zbool_i, zb0, zb1, zshp_0, zcs_eq, zcs_n, zcs_cs, zup_g, zup_n, zp2_sun, zp2_rock, zp2_tug, zp2_contract, zp2_window, zp2_code, zp2_rbody, zp2_rstock, zp2_tfree, zp2_thold, zp2_tknown, zp2_ccells, zsh2_sun, zsh2_rock, zsh2_body, zsh2_stock, zsh2_tug, zsh2_free, zsh2_hold, zsh2_known, zsh2_contract, zsh2_window, zsh2_code, zsh2_cells, zg_nsun0, zg_nsun1, zg_nsun2, zg_nrock0, zg_nrock1, zg_nrock2, zg_nrock3, zg_nrock4, zg_nrock5, zg_nrock6, zg_nrock7, zg_nrock8, zg_nrock9, zg_nrock10, zg_nrock11, zg_nrock12, zg_nrock13, zg_nrock14, zg_ntug0, zg_ntug1, zg_ntug2, zg_ntug3, zg_ntug4, zg_ntug5, zg_ntug6, zg_ntug7, zg_ntug8, zg_ntug9, zg_ntug10, zg_ntug11, zg_ntug12, zg_ntug13, zg_ntug14, zg_ntug15, zg_ntug17, zg_ntug18, zg_ntug19, zg_ntug20, zg_ntug21, zg_ntug22, zg_ncon0, zg_ncon1, zg_ncon2, zg_ncon3, zg_ncon4, zg_ncon5, zg_ncon6, zg_nwin0, zg_nwin1, zg_nwin2, zg_nwin3, zg_nwin4, zg_nwin5, zg_ncode0, zg_ncode1, zg_ncode3, zg_nrule, zg_nstock, zg_nhold, zg_nknown, zg_nord, zg_nrep, zg_ncla, zg_ntou, zg_ncel, zu_nsun0, zu_nsun1, zu_nsun2, zu_nrock0, zu_nrock1, zu_nrock2, zu_nrock3, zu_nrock4, zu_nrock5, zu_nrock6, zu_nrock7, zu_nrock8, zu_nrock9, zu_nrock10, zu_nrock11, zu_nrock12, zu_nrock13, zu_nrock14, zu_ntug0, zu_ntug1, zu_ntug2, zu_ntug3, zu_ntug4, zu_ntug5, zu_ntug6, zu_ntug7, zu_ntug8, zu_ntug9, zu_ntug10, zu_ntug11, zu_ntug12, zu_ntug13, zu_ntug14, zu_ntug15, zu_ntug17, zu_ntug18, zu_ntug19, zu_ntug20, zu_ntug21, zu_ntug22, zu_ncon0, zu_ncon1, zu_ncon2, zu_ncon3, zu_ncon4, zu_ncon5, zu_ncon6, zu_nwin0, zu_nwin1, zu_nwin2, zu_nwin3, zu_nwin4, zu_nwin5, zu_ncode3, zu_nrule, zu_nstock, zu_nhold, zu_nknown, zu_nord, zu_nrep, zu_ncla, zu_ntou, zu_ncel]
    refine ⟨_, _, (p0, p2, r2, r3, s4), rfl, ?_⟩
    simp +decide (disch := omega) only [e234_0, e234_5, e234_8, e234_13, e234_16, e234_21, e234_28, e234_31, e234_38, e234_41, T154, m235, h1, h2, zpre, ite_self, Nat.reduceAdd, zs1, zs2, zs3, zI_eqb, and_self, not_true_eq_false, if_true, if_false, ite_true, ite_false, not_false_eq_true, zBP, zBZ, zisO, zisA, zlen, decide_true, decide_false, Bool.and_self, Bool.and_true, Bool.true_and, cond_true, cond_false, zBG, zBR, zBU, zBV, zinb_n, zix_n, zlA, zlB, zlM, zlN, zlX, zlI, nI_add, Nat.add_eq_zero_iff, false_and, and_false, and_true, true_and, true_or, or_true, false_or, or_false, zbool_i, zb0, zb1, zshp_0, zcs_eq, zcs_n, zcs_cs, zup_g, zup_n, zg_srock2, zg_stug2, zg_ssun, zg_ssun0, zg_srock, zg_srock0, zg_stug, zg_stug0, zg_sord, zg_sord0, zg_srep, zg_srep0, zg_scla, zg_scla0, zg_scon, zg_scon0, zg_swin, zg_swin0, zg_sleg, zg_sleg0, zg_spro, zg_sstp, zg_swrd, zu_srock2, zu_stug2, zu_ssun, zu_ssun0, zu_srock, zu_srock0, zu_stug, zu_stug0, zu_sord, zu_sord0, zu_srep, zu_srep0, zu_scla, zu_scla0, zu_scon, zu_scon0, zu_swin, zu_swin0, zu_sleg, zu_sleg0, zu_spro, zu_sstp, zu_swrd]
    exact ⟨_, rfl, hR, rfl⟩
  by_cases h3 : x = x2
  case pos =>
    simp +decide (disch := omega) only [e133_0, e133_5, e133_8, e133_13, e133_16, e133_21, e133_24, e133_31, e133_34, e133_41, e133_44, T107, c134, h1, h2, h3, zpre, ite_self, zs1, zs2, zs3, zI_eqb, and_self, not_true_eq_false, if_true, if_false, ite_true, ite_false, not_false_eq_true, zBP, zBZ, zisO, zisA, zlen, decide_true, decide_false, Bool.and_self, Bool.and_true, Bool.true_and, cond_true, cond_false, zBG, zBR, zBU, zBV, zinb_n, zix_n, zlA, zlB, zlM, zlN, zlX, zlI, nI_add, Nat.add_eq_zero_iff, false_and, and_false, and_true, true_and, true_or, or_true, false_or, or_false, zbool_i, zb0, zb1, zshp_0, zcs_eq, zcs_n, zcs_cs, zup_g, zup_n, zp2_sun, zp2_rock, zp2_tug, zp2_contract, zp2_window, zp2_code, zp2_rbody, zp2_rstock, zp2_tfree, zp2_thold, zp2_tknown, zp2_ccells, zsh2_sun, zsh2_rock, zsh2_body, zsh2_stock, zsh2_tug, zsh2_free, zsh2_hold, zsh2_known, zsh2_contract, zsh2_window, zsh2_code, zsh2_cells, zg_nsun0, zg_nsun1, zg_nsun2, zg_nrock0, zg_nrock1, zg_nrock2, zg_nrock3, zg_nrock4, zg_nrock5, zg_nrock6, zg_nrock7, zg_nrock8, zg_nrock9, zg_nrock10, zg_nrock11, zg_nrock12, zg_nrock13, zg_nrock14, zg_ntug0, zg_ntug1, zg_ntug2, zg_ntug3, zg_ntug4, zg_ntug5, zg_ntug6, zg_ntug7, zg_ntug8, zg_ntug9, zg_ntug10, zg_ntug11, zg_ntug12, zg_ntug13, zg_ntug14, zg_ntug15, zg_ntug17, zg_ntug18, zg_ntug19, zg_ntug20, zg_ntug21, zg_ntug22, zg_ncon0, zg_ncon1, zg_ncon2, zg_ncon3, zg_ncon4, zg_ncon5, zg_ncon6, zg_nwin0, zg_nwin1, zg_nwin2, zg_nwin3, zg_nwin4, zg_nwin5, zg_ncode0, zg_ncode1, zg_ncode3, zg_nrule, zg_nstock, zg_nhold, zg_nknown, zg_nord, zg_nrep, zg_ncla, zg_ntou, zg_ncel, zu_nsun0, zu_nsun1, zu_nsun2, zu_nrock0, zu_nrock1, zu_nrock2, zu_nrock3, zu_nrock4, zu_nrock5, zu_nrock6, zu_nrock7, zu_nrock8, zu_nrock9, zu_nrock10, zu_nrock11, zu_nrock12, zu_nrock13, zu_nrock14, zu_ntug0, zu_ntug1, zu_ntug2, zu_ntug3, zu_ntug4, zu_ntug5, zu_ntug6, zu_ntug7, zu_ntug8, zu_ntug9, zu_ntug10, zu_ntug11, zu_ntug12, zu_ntug13, zu_ntug14, zu_ntug15, zu_ntug17, zu_ntug18, zu_ntug19, zu_ntug20, zu_ntug21, zu_ntug22, zu_ncon0, zu_ncon1, zu_ncon2, zu_ncon3, zu_ncon4, zu_ncon5, zu_ncon6, zu_nwin0, zu_nwin1, zu_nwin2, zu_nwin3, zu_nwin4, zu_nwin5, zu_ncode3, zu_nrule, zu_nstock, zu_nhold, zu_nknown, zu_nord, zu_nrep, zu_ncla, zu_ntou, zu_ncel]
    refine ⟨_, _, (p0, p2, r2, r3, s4), rfl, ?_⟩
    simp +decide (disch := omega) only [e234_0, e234_5, e234_8, e234_13, e234_16, e234_21, e234_28, e234_31, e234_38, e234_41, T154, m235, h1, h2, h3, zpre, ite_self, Nat.reduceAdd, zs1, zs2, zs3, zI_eqb, and_self, not_true_eq_false, if_true, if_false, ite_true, ite_false, not_false_eq_true, zBP, zBZ, zisO, zisA, zlen, decide_true, decide_false, Bool.and_self, Bool.and_true, Bool.true_and, cond_true, cond_false, zBG, zBR, zBU, zBV, zinb_n, zix_n, zlA, zlB, zlM, zlN, zlX, zlI, nI_add, Nat.add_eq_zero_iff, false_and, and_false, and_true, true_and, true_or, or_true, false_or, or_false, zbool_i, zb0, zb1, zshp_0, zcs_eq, zcs_n, zcs_cs, zup_g, zup_n, zg_srock2, zg_stug2, zg_ssun, zg_ssun0, zg_srock, zg_srock0, zg_stug, zg_stug0, zg_sord, zg_sord0, zg_srep, zg_srep0, zg_scla, zg_scla0, zg_scon, zg_scon0, zg_swin, zg_swin0, zg_sleg, zg_sleg0, zg_spro, zg_sstp, zg_swrd, zu_srock2, zu_stug2, zu_ssun, zu_ssun0, zu_srock, zu_srock0, zu_stug, zu_stug0, zu_sord, zu_sord0, zu_srep, zu_srep0, zu_scla, zu_scla0, zu_scon, zu_scon0, zu_swin, zu_swin0, zu_sleg, zu_sleg0, zu_spro, zu_sstp, zu_swrd]
    exact ⟨_, rfl, hR, rfl⟩
  by_cases h4 : 0 ≤ k ∧ k ≤ 60
  case neg =>
    simp +decide (disch := omega) only [e133_0, e133_5, e133_8, e133_13, e133_16, e133_21, e133_24, e133_31, e133_34, e133_41, e133_44, T107, c134, h1, h2, h3, h4, zpre, ite_self, zs1, zs2, zs3, zI_eqb, and_self, not_true_eq_false, if_true, if_false, ite_true, ite_false, not_false_eq_true, zBP, zBZ, zisO, zisA, zlen, decide_true, decide_false, Bool.and_self, Bool.and_true, Bool.true_and, cond_true, cond_false, zBG, zBR, zBU, zBV, zinb_n, zix_n, zlA, zlB, zlM, zlN, zlX, zlI, nI_add, Nat.add_eq_zero_iff, false_and, and_false, and_true, true_and, true_or, or_true, false_or, or_false, zbool_i, zb0, zb1, zshp_0, zcs_eq, zcs_n, zcs_cs, zup_g, zup_n, zp2_sun, zp2_rock, zp2_tug, zp2_contract, zp2_window, zp2_code, zp2_rbody, zp2_rstock, zp2_tfree, zp2_thold, zp2_tknown, zp2_ccells, zsh2_sun, zsh2_rock, zsh2_body, zsh2_stock, zsh2_tug, zsh2_free, zsh2_hold, zsh2_known, zsh2_contract, zsh2_window, zsh2_code, zsh2_cells, zg_nsun0, zg_nsun1, zg_nsun2, zg_nrock0, zg_nrock1, zg_nrock2, zg_nrock3, zg_nrock4, zg_nrock5, zg_nrock6, zg_nrock7, zg_nrock8, zg_nrock9, zg_nrock10, zg_nrock11, zg_nrock12, zg_nrock13, zg_nrock14, zg_ntug0, zg_ntug1, zg_ntug2, zg_ntug3, zg_ntug4, zg_ntug5, zg_ntug6, zg_ntug7, zg_ntug8, zg_ntug9, zg_ntug10, zg_ntug11, zg_ntug12, zg_ntug13, zg_ntug14, zg_ntug15, zg_ntug17, zg_ntug18, zg_ntug19, zg_ntug20, zg_ntug21, zg_ntug22, zg_ncon0, zg_ncon1, zg_ncon2, zg_ncon3, zg_ncon4, zg_ncon5, zg_ncon6, zg_nwin0, zg_nwin1, zg_nwin2, zg_nwin3, zg_nwin4, zg_nwin5, zg_ncode0, zg_ncode1, zg_ncode3, zg_nrule, zg_nstock, zg_nhold, zg_nknown, zg_nord, zg_nrep, zg_ncla, zg_ntou, zg_ncel, zu_nsun0, zu_nsun1, zu_nsun2, zu_nrock0, zu_nrock1, zu_nrock2, zu_nrock3, zu_nrock4, zu_nrock5, zu_nrock6, zu_nrock7, zu_nrock8, zu_nrock9, zu_nrock10, zu_nrock11, zu_nrock12, zu_nrock13, zu_nrock14, zu_ntug0, zu_ntug1, zu_ntug2, zu_ntug3, zu_ntug4, zu_ntug5, zu_ntug6, zu_ntug7, zu_ntug8, zu_ntug9, zu_ntug10, zu_ntug11, zu_ntug12, zu_ntug13, zu_ntug14, zu_ntug15, zu_ntug17, zu_ntug18, zu_ntug19, zu_ntug20, zu_ntug21, zu_ntug22, zu_ncon0, zu_ncon1, zu_ncon2, zu_ncon3, zu_ncon4, zu_ncon5, zu_ncon6, zu_nwin0, zu_nwin1, zu_nwin2, zu_nwin3, zu_nwin4, zu_nwin5, zu_ncode3, zu_nrule, zu_nstock, zu_nhold, zu_nknown, zu_nord, zu_nrep, zu_ncla, zu_ntou, zu_ncel]
    refine ⟨_, _, (p0, p2, r2, r3, s4), rfl, ?_⟩
    simp +decide (disch := omega) only [e234_0, e234_5, e234_8, e234_13, e234_16, e234_21, e234_28, e234_31, e234_38, e234_41, T154, m235, h1, h2, h3, h4, zpre, ite_self, Nat.reduceAdd, zs1, zs2, zs3, zI_eqb, and_self, not_true_eq_false, if_true, if_false, ite_true, ite_false, not_false_eq_true, zBP, zBZ, zisO, zisA, zlen, decide_true, decide_false, Bool.and_self, Bool.and_true, Bool.true_and, cond_true, cond_false, zBG, zBR, zBU, zBV, zinb_n, zix_n, zlA, zlB, zlM, zlN, zlX, zlI, nI_add, Nat.add_eq_zero_iff, false_and, and_false, and_true, true_and, true_or, or_true, false_or, or_false, zbool_i, zb0, zb1, zshp_0, zcs_eq, zcs_n, zcs_cs, zup_g, zup_n, zg_srock2, zg_stug2, zg_ssun, zg_ssun0, zg_srock, zg_srock0, zg_stug, zg_stug0, zg_sord, zg_sord0, zg_srep, zg_srep0, zg_scla, zg_scla0, zg_scon, zg_scon0, zg_swin, zg_swin0, zg_sleg, zg_sleg0, zg_spro, zg_sstp, zg_swrd, zu_srock2, zu_stug2, zu_ssun, zu_ssun0, zu_srock, zu_srock0, zu_stug, zu_stug0, zu_sord, zu_sord0, zu_srep, zu_srep0, zu_scla, zu_scla0, zu_scon, zu_scon0, zu_swin, zu_swin0, zu_sleg, zu_sleg0, zu_spro, zu_sstp, zu_swrd]
    exact ⟨_, rfl, hR, rfl⟩
  by_cases h5 : 0 ≤ wh ∧ wh ≤ 1
  case neg =>
    simp +decide (disch := omega) only [e133_0, e133_5, e133_8, e133_13, e133_16, e133_21, e133_24, e133_31, e133_34, e133_41, e133_44, T107, c134, h1, h2, h3, h4, h5, zpre, ite_self, zs1, zs2, zs3, zI_eqb, and_self, not_true_eq_false, if_true, if_false, ite_true, ite_false, not_false_eq_true, zBP, zBZ, zisO, zisA, zlen, decide_true, decide_false, Bool.and_self, Bool.and_true, Bool.true_and, cond_true, cond_false, zBG, zBR, zBU, zBV, zinb_n, zix_n, zlA, zlB, zlM, zlN, zlX, zlI, nI_add, Nat.add_eq_zero_iff, false_and, and_false, and_true, true_and, true_or, or_true, false_or, or_false, zbool_i, zb0, zb1, zshp_0, zcs_eq, zcs_n, zcs_cs, zup_g, zup_n, zp2_sun, zp2_rock, zp2_tug, zp2_contract, zp2_window, zp2_code, zp2_rbody, zp2_rstock, zp2_tfree, zp2_thold, zp2_tknown, zp2_ccells, zsh2_sun, zsh2_rock, zsh2_body, zsh2_stock, zsh2_tug, zsh2_free, zsh2_hold, zsh2_known, zsh2_contract, zsh2_window, zsh2_code, zsh2_cells, zg_nsun0, zg_nsun1, zg_nsun2, zg_nrock0, zg_nrock1, zg_nrock2, zg_nrock3, zg_nrock4, zg_nrock5, zg_nrock6, zg_nrock7, zg_nrock8, zg_nrock9, zg_nrock10, zg_nrock11, zg_nrock12, zg_nrock13, zg_nrock14, zg_ntug0, zg_ntug1, zg_ntug2, zg_ntug3, zg_ntug4, zg_ntug5, zg_ntug6, zg_ntug7, zg_ntug8, zg_ntug9, zg_ntug10, zg_ntug11, zg_ntug12, zg_ntug13, zg_ntug14, zg_ntug15, zg_ntug17, zg_ntug18, zg_ntug19, zg_ntug20, zg_ntug21, zg_ntug22, zg_ncon0, zg_ncon1, zg_ncon2, zg_ncon3, zg_ncon4, zg_ncon5, zg_ncon6, zg_nwin0, zg_nwin1, zg_nwin2, zg_nwin3, zg_nwin4, zg_nwin5, zg_ncode0, zg_ncode1, zg_ncode3, zg_nrule, zg_nstock, zg_nhold, zg_nknown, zg_nord, zg_nrep, zg_ncla, zg_ntou, zg_ncel, zu_nsun0, zu_nsun1, zu_nsun2, zu_nrock0, zu_nrock1, zu_nrock2, zu_nrock3, zu_nrock4, zu_nrock5, zu_nrock6, zu_nrock7, zu_nrock8, zu_nrock9, zu_nrock10, zu_nrock11, zu_nrock12, zu_nrock13, zu_nrock14, zu_ntug0, zu_ntug1, zu_ntug2, zu_ntug3, zu_ntug4, zu_ntug5, zu_ntug6, zu_ntug7, zu_ntug8, zu_ntug9, zu_ntug10, zu_ntug11, zu_ntug12, zu_ntug13, zu_ntug14, zu_ntug15, zu_ntug17, zu_ntug18, zu_ntug19, zu_ntug20, zu_ntug21, zu_ntug22, zu_ncon0, zu_ncon1, zu_ncon2, zu_ncon3, zu_ncon4, zu_ncon5, zu_ncon6, zu_nwin0, zu_nwin1, zu_nwin2, zu_nwin3, zu_nwin4, zu_nwin5, zu_ncode3, zu_nrule, zu_nstock, zu_nhold, zu_nknown, zu_nord, zu_nrep, zu_ncla, zu_ntou, zu_ncel]
    refine ⟨_, _, (p0, p2, r2, r3, s4), rfl, ?_⟩
    simp +decide (disch := omega) only [e234_0, e234_5, e234_8, e234_13, e234_16, e234_21, e234_28, e234_31, e234_38, e234_41, T154, m235, h1, h2, h3, h4, h5, zpre, ite_self, Nat.reduceAdd, zs1, zs2, zs3, zI_eqb, and_self, not_true_eq_false, if_true, if_false, ite_true, ite_false, not_false_eq_true, zBP, zBZ, zisO, zisA, zlen, decide_true, decide_false, Bool.and_self, Bool.and_true, Bool.true_and, cond_true, cond_false, zBG, zBR, zBU, zBV, zinb_n, zix_n, zlA, zlB, zlM, zlN, zlX, zlI, nI_add, Nat.add_eq_zero_iff, false_and, and_false, and_true, true_and, true_or, or_true, false_or, or_false, zbool_i, zb0, zb1, zshp_0, zcs_eq, zcs_n, zcs_cs, zup_g, zup_n, zg_srock2, zg_stug2, zg_ssun, zg_ssun0, zg_srock, zg_srock0, zg_stug, zg_stug0, zg_sord, zg_sord0, zg_srep, zg_srep0, zg_scla, zg_scla0, zg_scon, zg_scon0, zg_swin, zg_swin0, zg_sleg, zg_sleg0, zg_spro, zg_sstp, zg_swrd, zu_srock2, zu_stug2, zu_ssun, zu_ssun0, zu_srock, zu_srock0, zu_stug, zu_stug0, zu_sord, zu_sord0, zu_srep, zu_srep0, zu_scla, zu_scla0, zu_scon, zu_scon0, zu_swin, zu_swin0, zu_sleg, zu_sleg0, zu_spro, zu_sstp, zu_swrd]
    exact ⟨_, rfl, hR, rfl⟩
  obtain ⟨k, hk60, rfl⟩ := zrng (n := 60) h4 (by decide)
  have hRR' : ∀ i, i < n → zRR1 (C 2 i) (C 42 i) := fun i hi => hRR i (by rw [hn, zix_n (by omega)]; exact hi)
  have hT' : ∀ i, i < t → (∀ f, f < 5 → C 3 i f = C 43 i f) ∧ C 3 i 9 = znn (C 43 i 9) ∧ (C 43 i 9 = -1 ∨ ∃ r, r < n ∧ C 43 i 9 = nI r) := by
    intro i hi
    have q := hT i (by rw [ht, zix_n (by omega)]; exact hi)
    refine ⟨fun f hf => q.1 f (by omega) (by omega) (by omega), q.2.1, q.2.2.2.2.2.2.2.2.1.imp id (fun ⟨r, hr, e⟩ => ⟨r, ?_, e⟩)⟩
    rw [hn, zix_n (by omega)] at hr; exact hr
  obtain ⟨ra, a, Q1, c1, m1, z1, y1, g1, i1⟩ := zbod L C p0 p2 r2 r3 s4 n t x hn8 ht8 hr0 hRR' hT' h1
  obtain ⟨rb, b, Q2, c2, m2, z2, y2, g2, i2⟩ := zbod L C p0 p2 r2 r3 s4 n t x2 hn8 ht8 hr0 hRR' hT' h2
  have e1 := (T5g (d + 99) L p0 p2 r2 r3 s4 C z1 y1.2 (g1 C rfl rfl)).1
  obtain ⟨C1, hC1⟩ : ∃ C1, C1 = zcs C 399 (zset4 (C 399) Q1) := ⟨_, rfl⟩
  rw [← hC1] at e1
  have o1 : ∀ g, g ≠ 399 → C1 g = C g := fun g e => by rw [hC1, zcs_n _ _ e]
  have e2 := (T5g (d + 99) L p0 p2 r2 r3 s4 C1 z2 y2.2 (g2 C1 (o1 _ (by decide)) (o1 _ (by decide)))).2
  obtain ⟨C2, hC2⟩ : ∃ C2, C2 = zcs C1 400 (zset4 (C1 400) Q2) := ⟨_, rfl⟩
  rw [← hC2] at e2
  have o2 : ∀ g, g ≠ 400 → C2 g = C1 g := fun g e => by rw [hC2, zcs_n _ _ e]
  have q1 : zqd (C2 399 0) 0 = Q1 := by rw [o2 _ (by decide), hC1, zcs_eq, zset4_q]
  have q2 : zqd (C2 400 0) 0 = Q2 := by rw [hC2, zcs_eq, zset4_q]
  obtain ⟨F, G, f⟩ := T133_90 (d + 95) L p0 p2 r2 r3 s4 n4 k x x2 wh hn48 hk60 k 1 C2 (zfq Q1 Q2) 0 zmk Q1 Q2 (by rw [o2 _ (by decide), o1 _ (by decide)]; exact hs0) q1 q2 (by omega)
  rw [zn1, o2 1 (by decide), o1 1 (by decide)] at f
  obtain ⟨C3, hC3⟩ : ∃ C3, C3 = zcs (zcs C2 399 F) 400 G := ⟨_, rfl⟩
  rw [← hC3] at f
  have o3 : ∀ g, g ≠ 399 → g ≠ 400 → C3 g = C g := fun g e1 e2 => by rw [hC3, zcs_n _ _ e2, zcs_n _ _ e1, o2 g e2, o1 g e1]
  have ca := c1 (d + 96) C rfl rfl rfl
  have cb := c2 (d + 96) C1 (o1 _ (by decide)) (o1 _ (by decide)) (o1 _ (by decide))
  have xa : C2 399 0 0 = Q1.1 := congrArg (fun q => q.1) q1
  have ya : C2 399 0 1 = Q1.2.1 := congrArg (fun q => q.2.1) q1
  have xb : C2 400 0 0 = Q2.1 := congrArg (fun q => q.1) q2
  have yb : C2 400 0 1 = Q2.2.1 := congrArg (fun q => q.2.1) q2
  have hfar : zR (d + 99) 3 0 [.ref 199, .ref 200] [] (zZ L, zI C2, zPd p0 p2 r2 r3 s4) = some (some (.int (zfq Q1 Q2)), (zZ L, zI C2, zPd p0 p2 r2 r3 s4)) := by
    unfold zfq
    rw [T3]
    simp +decide (disch := omega) only [xa, ya, xb, yb, zpre, ite_self, zs1, zs2, zs3, zI_eqb, and_self, not_true_eq_false, if_true, if_false, ite_true, ite_false, not_false_eq_true, zBP, zBZ, zisO, zisA, zlen, decide_true, decide_false, Bool.and_self, Bool.and_true, Bool.true_and, cond_true, cond_false, zBG, zBR, zBU, zBV, zinb_n, zix_n, zlA, zlB, zlM, zlN, zlX, zlI, nI_add, Nat.add_eq_zero_iff, false_and, and_false, and_true, true_and, true_or, or_true, false_or, or_false, zbool_i, zb0, zb1, zshp_0, zcs_eq, zcs_n, zcs_cs, zup_g, zup_n, zp2_sun, zp2_rock, zp2_tug, zp2_contract, zp2_window, zp2_code, zp2_rbody, zp2_rstock, zp2_tfree, zp2_thold, zp2_tknown, zp2_ccells, zsh2_sun, zsh2_rock, zsh2_body, zsh2_stock, zsh2_tug, zsh2_free, zsh2_hold, zsh2_known, zsh2_contract, zsh2_window, zsh2_code, zsh2_cells, zg_nsun0, zg_nsun1, zg_nsun2, zg_nrock0, zg_nrock1, zg_nrock2, zg_nrock3, zg_nrock4, zg_nrock5, zg_nrock6, zg_nrock7, zg_nrock8, zg_nrock9, zg_nrock10, zg_nrock11, zg_nrock12, zg_nrock13, zg_nrock14, zg_ntug0, zg_ntug1, zg_ntug2, zg_ntug3, zg_ntug4, zg_ntug5, zg_ntug6, zg_ntug7, zg_ntug8, zg_ntug9, zg_ntug10, zg_ntug11, zg_ntug12, zg_ntug13, zg_ntug14, zg_ntug15, zg_ntug17, zg_ntug18, zg_ntug19, zg_ntug20, zg_ntug21, zg_ntug22, zg_ncon0, zg_ncon1, zg_ncon2, zg_ncon3, zg_ncon4, zg_ncon5, zg_ncon6, zg_nwin0, zg_nwin1, zg_nwin2, zg_nwin3, zg_nwin4, zg_nwin5, zg_ncode0, zg_ncode1, zg_ncode3, zg_nrule, zg_nstock, zg_nhold, zg_nknown, zg_nord, zg_nrep, zg_ncla, zg_ntou, zg_ncel, zu_nsun0, zu_nsun1, zu_nsun2, zu_nrock0, zu_nrock1, zu_nrock2, zu_nrock3, zu_nrock4, zu_nrock5, zu_nrock6, zu_nrock7, zu_nrock8, zu_nrock9, zu_nrock10, zu_nrock11, zu_nrock12, zu_nrock13, zu_nrock14, zu_ntug0, zu_ntug1, zu_ntug2, zu_ntug3, zu_ntug4, zu_ntug5, zu_ntug6, zu_ntug7, zu_ntug8, zu_ntug9, zu_ntug10, zu_ntug11, zu_ntug12, zu_ntug13, zu_ntug14, zu_ntug15, zu_ntug17, zu_ntug18, zu_ntug19, zu_ntug20, zu_ntug21, zu_ntug22, zu_ncon0, zu_ncon1, zu_ncon2, zu_ncon3, zu_ncon4, zu_ncon5, zu_ncon6, zu_nwin0, zu_nwin1, zu_nwin2, zu_nwin3, zu_nwin4, zu_nwin5, zu_ncode3, zu_nrule, zu_nstock, zu_nhold, zu_nknown, zu_nord, zu_nrep, zu_ncla, zu_ntou, zu_ncel]
  have n40 : C3 40 = C 40 := o3 _ (by decide) (by decide)
  have n41 : C3 41 = C 41 := o3 _ (by decide) (by decide)
  have n42 : C3 42 = C 42 := o3 _ (by decide) (by decide)
  have n43 : C3 43 = C 43 := o3 _ (by decide) (by decide)
  obtain ⟨B, b1, b2, b3⟩ := T225 (d + 99) L p0 p2 r2 r3 s4 n t C3 zmk zmk hn8 ht8 (by rw [n40]; exact hn) (by rw [n40]; exact ht)
  have hid : ∀ c, zidx (zcs C3 411 B) n t c = zidx C n t c := fun c => by unfold zidx; rw [zcs_n _ _ (by decide), n43]
  have hzB : ∀ i, i < n → zBq (zqd (C 42 i) 1) := fun i hi => by
    have q := (hRR' i hi).2.2.2.1
    exact ⟨q 1 (by decide) (by decide), q 2 (by decide) (by decide), q 3 (by decide) (by decide), q 4 (by decide) (by decide)⟩
  have hzB2 : ∀ i, i < t → zBq (zqd (C 43 i) 1) := fun i hi => by
    have q := (hT i (by rw [ht, zix_n (by omega)]; exact hi)).2.2.2.2.1
    exact ⟨q 1 (by decide) (by decide), q 2 (by decide) (by decide), q 3 (by decide) (by decide), q 4 (by decide) (by decide)⟩
  have hBall : zBall (zcs C3 411 B) n t := by
    intro c hc
    rw [hid] at hc
    rw [zcs_eq]
    rcases hc with hc | ⟨u, hu, rfl, _⟩
    · rw [b2 c hc, n42]; exact hzB c hc
    · rw [b3 u hu, n43]; exact hzB2 u hu
  have ida : zidx C n t a := i1.elim (fun q => Or.inl q.1) (fun ⟨u, hu, e, hf, _⟩ => Or.inr ⟨u, hu, e, hf⟩)
  have idb : zidx C n t b := i2.elim (fun q => Or.inl q.1) (fun ⟨u, hu, e, hf, _⟩ => Or.inr ⟨u, hu, e, hf⟩)
  have qa : zqd (zcs C3 411 B 411 0) (4 * a) = Q1 := by
    rw [zcs_eq]
    rcases i1 with ⟨h, e⟩ | ⟨u, hu, rfl, _, e⟩
    · rw [b2 a h, n42, e]
    · rw [b3 u hu, n43, e]
  have qb : zqd (zcs C3 411 B 411 0) (4 * b) = Q2 := by
    rw [zcs_eq]
    rcases i2 with ⟨h, e⟩ | ⟨u, hu, rfl, _, e⟩
    · rw [b2 b h, n42, e]
    · rw [b3 u hu, n43, e]
  obtain ⟨H, g⟩ := T234_71z (d + 94) L p0 p2 r2 r3 s4 n4 n t k a b x x2 wh hn48 hn8 ht8 hk60 (zcs C3 411 B) zmk Q1 Q2 (by rw [zcs_n _ _ (by decide), n40]; exact hn4) (by rw [zcs_n _ _ (by decide), n40]; exact hn) (by rw [zcs_n _ _ (by decide), n40]; exact ht) hBall (by rw [hid]; exact ida) (by rw [hid]; exact idb) qa qb
  rw [zcs_cs, zcs_n _ _ (by decide), n41] at g
  have hzm : ∀ m k a b l w, zms (C 1) n4 m k a b l w = zms (C 41) n4 m k a b l w := by
    intro m
    induction m with
    | zero => intro k a b l w; rfl
    | succ m ih =>
      intro k a b l w
      have hd : ∀ b, zdr (C 1) n4 b = zdr (C 41) n4 b := zdr_c (fun i hi f hf => hS i (by rw [hn4, zix_n (by omega)]; exact hi) f hf)
      unfold zms
      simp only [ih, hd]
  have ma := m1 (d + 98) C3 n40 n43
  have mb := m2 (d + 98) C3 n40 n43
  have m235' := fun d x => T235p d L p0 p2 r2 r3 s4 n t C3 x hn8 ht8 (by rw [n40]; exact hn) (by rw [n40]; exact ht)
  refine ⟨if wh = 0 then (zms (C 41) n4 k 1 Q1 Q2 (zfq Q1 Q2) 0).1 else (zms (C 41) n4 k 1 Q1 Q2 (zfq Q1 Q2) 0).2, C3, (p0, p2, r2, r3, s4), ?_, zcs C3 411 H, ?_, ?_, ?_⟩
  · simp only [hzm] at f
    simp +decide (disch := omega) only [e133_0, e133_5, e133_8, e133_13, e133_16, e133_21, e133_24, e133_31, e133_34, e133_41, e133_44, e133_47, e133_56, e133_59, e133_68, e133_71, e133_82, e133_96, e133_107, e133_118, e133_129, e133_138, e133_146, e133_152, e133_157, e133_162, e133_164, T107, c134, h1, h2, h3, h4, h5, ca, cb, e1, e2, hfar, f, z1, z2, zpre, ite_self, zs1, zs2, zs3, zI_eqb, and_self, not_true_eq_false, if_true, if_false, ite_true, ite_false, not_false_eq_true, zBP, zBZ, zisO, zisA, zlen, decide_true, decide_false, Bool.and_self, Bool.and_true, Bool.true_and, cond_true, cond_false, zBG, zBR, zBU, zBV, zinb_n, zix_n, zlA, zlB, zlM, zlN, zlX, zlI, nI_add, Nat.add_eq_zero_iff, false_and, and_false, and_true, true_and, true_or, or_true, false_or, or_false, zbool_i, zb0, zb1, zshp_0, zcs_eq, zcs_n, zcs_cs, zup_g, zup_n, zp2_sun, zp2_rock, zp2_tug, zp2_contract, zp2_window, zp2_code, zp2_rbody, zp2_rstock, zp2_tfree, zp2_thold, zp2_tknown, zp2_ccells, zsh2_sun, zsh2_rock, zsh2_body, zsh2_stock, zsh2_tug, zsh2_free, zsh2_hold, zsh2_known, zsh2_contract, zsh2_window, zsh2_code, zsh2_cells, zg_nsun0, zg_nsun1, zg_nsun2, zg_nrock0, zg_nrock1, zg_nrock2, zg_nrock3, zg_nrock4, zg_nrock5, zg_nrock6, zg_nrock7, zg_nrock8, zg_nrock9, zg_nrock10, zg_nrock11, zg_nrock12, zg_nrock13, zg_nrock14, zg_ntug0, zg_ntug1, zg_ntug2, zg_ntug3, zg_ntug4, zg_ntug5, zg_ntug6, zg_ntug7, zg_ntug8, zg_ntug9, zg_ntug10, zg_ntug11, zg_ntug12, zg_ntug13, zg_ntug14, zg_ntug15, zg_ntug17, zg_ntug18, zg_ntug19, zg_ntug20, zg_ntug21, zg_ntug22, zg_ncon0, zg_ncon1, zg_ncon2, zg_ncon3, zg_ncon4, zg_ncon5, zg_ncon6, zg_nwin0, zg_nwin1, zg_nwin2, zg_nwin3, zg_nwin4, zg_nwin5, zg_ncode0, zg_ncode1, zg_ncode3, zg_nrule, zg_nstock, zg_nhold, zg_nknown, zg_nord, zg_nrep, zg_ncla, zg_ntou, zg_ncel, zu_nsun0, zu_nsun1, zu_nsun2, zu_nrock0, zu_nrock1, zu_nrock2, zu_nrock3, zu_nrock4, zu_nrock5, zu_nrock6, zu_nrock7, zu_nrock8, zu_nrock9, zu_nrock10, zu_nrock11, zu_nrock12, zu_nrock13, zu_nrock14, zu_ntug0, zu_ntug1, zu_ntug2, zu_ntug3, zu_ntug4, zu_ntug5, zu_ntug6, zu_ntug7, zu_ntug8, zu_ntug9, zu_ntug10, zu_ntug11, zu_ntug12, zu_ntug13, zu_ntug14, zu_ntug15, zu_ntug17, zu_ntug18, zu_ntug19, zu_ntug20, zu_ntug21, zu_ntug22, zu_ncon0, zu_ncon1, zu_ncon2, zu_ncon3, zu_ncon4, zu_ncon5, zu_ncon6, zu_nwin0, zu_nwin1, zu_nwin2, zu_nwin3, zu_nwin4, zu_nwin5, zu_ncode3, zu_nrule, zu_nstock, zu_nhold, zu_nknown, zu_nord, zu_nrep, zu_ncla, zu_ntou, zu_ncel]
  · simp +decide (disch := omega) only [e234_0, e234_5, e234_8, e234_13, e234_16, e234_21, e234_28, e234_31, e234_38, e234_41, e234_44, e234_49, e234_56, e234_62, T154, m235', h1, h2, h3, h4, h5, ma, mb, b1, g, zpre, ite_self, Nat.reduceAdd, zs1, zs2, zs3, zI_eqb, and_self, not_true_eq_false, if_true, if_false, ite_true, ite_false, not_false_eq_true, zBP, zBZ, zisO, zisA, zlen, decide_true, decide_false, Bool.and_self, Bool.and_true, Bool.true_and, cond_true, cond_false, zBG, zBR, zBU, zBV, zinb_n, zix_n, zlA, zlB, zlM, zlN, zlX, zlI, nI_add, Nat.add_eq_zero_iff, false_and, and_false, and_true, true_and, true_or, or_true, false_or, or_false, zbool_i, zb0, zb1, zshp_0, zcs_eq, zcs_n, zcs_cs, zup_g, zup_n, zg_srock2, zg_stug2, zg_ssun, zg_ssun0, zg_srock, zg_srock0, zg_stug, zg_stug0, zg_sord, zg_sord0, zg_srep, zg_srep0, zg_scla, zg_scla0, zg_scon, zg_scon0, zg_swin, zg_swin0, zg_sleg, zg_sleg0, zg_spro, zg_sstp, zg_swrd, zu_srock2, zu_stug2, zu_ssun, zu_ssun0, zu_srock, zu_srock0, zu_stug, zu_stug0, zu_sord, zu_sord0, zu_srep, zu_srep0, zu_scla, zu_scla0, zu_scon, zu_scon0, zu_swin, zu_swin0, zu_sleg, zu_sleg0, zu_spro, zu_sstp, zu_swrd]
  · unfold zRep zWR
    simp (disch := omega) only [zcs_n, o3]
    exact hR
  · rw [zcs_n _ _ (by decide), o3 _ (by decide) (by decide)]
