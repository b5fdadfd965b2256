/-! THE PROGRAM: words and signs (3), printed by wip/gen/pub58.py -/
def zMT (T : Nat → Nat) (n : Nat) (C : zCt) : Prop := C 401 0 7 = nI n ∧ n ≤ 120 ∧ ∀ k, k < n → C 404 0 k = nI (T k) ∧ T k < 256
def zso (k : Nat) : Nat := if k = 4 then 2 else k
/-- the text and the place in it, in the model (nothing wrong so far) -/
def zPM (T : Nat → Nat) (n : Nat) (C : zCt) (x : zLx) : Prop := zMT T n C ∧ C 401 0 8 = nI (zso x.2.2) ∧ C 401 0 5 = nI x.1 ∧ C 401 0 6 = nI x.2.1 ∧ C 401 0 10 = 0
theorem zMT_up {T : Nat → Nat} {n : Nat} {C : zCt} (h : zMT T n C) {F : zGp} (hF : F 0 7 = C 401 0 7) : zMT T n (zcs C 401 F) := by
  unfold zMT
  rw [zcs_eq, zcs_n _ _ (by decide), hF]
  exact h
theorem M181 (d : Nat) (Z : List (Nat × Nat)) (I : Nat → Nat → Int32) (P : Nat → Nat → Nat) {b : Nat} (h : b < 256) : zR (d + 1) 181 0 [.int (nI b)] [] (Z, I, P) = some (some (.int (nI (zsrt b))), (Z, I, P)) := by
  unfold zsrt
  by_cases c1 : 97 ≤ b ∧ b ≤ 122
  · have k1 : (97 : Int32) ≤ nI b ∧ nI b ≤ 122 := ⟨nI_le (a := 97) c1.1 (by omega), nI_le (b := 122) c1.2 (by decide)⟩
    rw [if_pos c1]
    simp only [e181_0, e181_8, e181_11, e181_15, e181_23, e181_26, e181_30, e181_31, T154, k1, and_self, if_true, zs1, zs2]
    rfl
  · have k1 : ¬ ((97 : Int32) ≤ nI b ∧ nI b ≤ 122) := by
      rintro ⟨q1, q2⟩
      by_cases c : 97 ≤ b
      · exact nI_ge (a := 122) (show 122 < b by omega) (by omega) q2
      · exact nI_ge (b := 97) (show b < 97 by omega) (by decide) q1
    rw [if_neg c1]
    by_cases c2 : 48 ≤ b ∧ b ≤ 57
    · have k2 : (48 : Int32) ≤ nI b ∧ nI b ≤ 57 := ⟨nI_le (a := 48) c2.1 (by omega), nI_le (b := 57) c2.2 (by decide)⟩
      rw [if_pos c2]
      simp only [e181_0, e181_8, e181_11, e181_15, e181_23, e181_26, e181_30, e181_31, T154, k1, k2, and_self, if_true, if_false, zs1, zs2]
      rfl
    · have k2 : ¬ ((48 : Int32) ≤ nI b ∧ nI b ≤ 57) := by
        rintro ⟨q1, q2⟩
        by_cases c : 48 ≤ b
        · exact nI_ge (a := 57) (show 57 < b by omega) (by omega) q2
        · exact nI_ge (b := 48) (show b < 48 by omega) (by decide) q1
      rw [if_neg c2]
      simp only [e181_0, e181_8, e181_11, e181_15, e181_23, e181_26, e181_30, e181_31, T154, k1, k2, if_true, if_false, zs1, zs2]
      rfl

theorem M180_sp (d L p0 p2 r2 r3 s4 : Nat) {T : Nat → Nat} {n : Nat} (x1 : Int32) (v2 : Value) : ∀ (m i : Nat) (C : zCt), zMT T n C → C 401 0 5 = nI i → i + m = n → zR (d + 2) 180 21 [.ref 201, .int x1, v2] [] (zZ L, zI C, zPd p0 p2 r2 r3 s4) = zR (d + 2) 180 59 [.ref 201, .int x1, v2] [] (zZ L, zI (zcs C 401 (zup (C 401) 0 5 (nI (zskp T m i)))), zPd p0 p2 r2 r3 s4) := by
  intro m
  induction m with
  | zero =>
    intro i C h h4 hi
    have c1 : nI n ≤ nI i := nI_le (by omega) (by have := h.2.1; omega)
    have h1 := h.1
    rw [show zskp T 0 i = i from rfl, zup_same (C 401) 0 5 _ h4, zcs_self, e180_21]
    simp +decide (disch := omega) only [h1, h4, c1, zpre, ite_self, Nat.reduceAdd, zs1, zs2, zs3, zI_eqb, and_self, not_true_eq_false, if_true, if_false, ite_true, ite_false, not_false_eq_true, zBP, zBZ, zisO, zisA, zlen, decide_true, decide_false, Bool.and_self, Bool.and_true, Bool.true_and, cond_true, cond_false, zBG, zBR, zBU, zBV, zinb_n, zix_n, zlA, zlB, zlM, zlN, zlX, zlI, nI_add, Nat.add_eq_zero_iff, false_and, and_false, and_true, true_and, true_or, or_true, false_or, or_false, zbool_i, zb0, zb1, zshp_0, zcs_eq, zcs_n, zcs_cs, zup_g, zup_n, zg_srock2, zg_stug2, zg_ssun, zg_ssun0, zg_srock, zg_srock0, zg_stug, zg_stug0, zg_sord, zg_sord0, zg_srep, zg_srep0, zg_scla, zg_scla0, zg_scon, zg_scon0, zg_swin, zg_swin0, zg_sleg, zg_sleg0, zg_spro, zg_sstp, zg_swrd, zu_srock2, zu_stug2, zu_ssun, zu_ssun0, zu_srock, zu_srock0, zu_stug, zu_stug0, zu_sord, zu_sord0, zu_srep, zu_srep0, zu_scla, zu_scla0, zu_scon, zu_scon0, zu_swin, zu_swin0, zu_sleg, zu_sleg0, zu_spro, zu_sstp, zu_swrd]
  | succ m IH =>
    intro i C h h4 hi
    have h120 := h.2.1
    have c1 : ¬ nI n ≤ nI i := nI_ge (by omega) (by omega)
    have h1 := h.1
    have t := (h.2.2 i (by omega)).1
    have hb := (h.2.2 i (by omega)).2
    unfold zskp
    by_cases e : T i = 32
    · rw [e] at t
      have t : C 404 0 i = 32 := t
      have IH2 := IH (i + 1) (zcs C 401 (zup (C 401) 0 5 (nI (i + 1)))) (zMT_up h (zup_n _ _ (by omega))) (by rw [zcs_eq, zup_g]) (by omega)
      rw [zcs_eq, zcs_cs, zup_up] at IH2
      rw [if_pos e, ← IH2, e180_21]
      simp +decide (disch := omega) only [h1, h4, c1, e180_32, e180_46, t, zpre, ite_self, Nat.reduceAdd, zs1, zs2, zs3, zI_eqb, and_self, not_true_eq_false, if_true, if_false, ite_true, ite_false, not_false_eq_true, zBP, zBZ, zisO, zisA, zlen, decide_true, decide_false, Bool.and_self, Bool.and_true, Bool.true_and, cond_true, cond_false, zBG, zBR, zBU, zBV, zinb_n, zix_n, zlA, zlB, zlM, zlN, zlX, zlI, nI_add, Nat.add_eq_zero_iff, false_and, and_false, and_true, true_and, true_or, or_true, false_or, or_false, zbool_i, zb0, zb1, zshp_0, zcs_eq, zcs_n, zcs_cs, zup_g, zup_n, zg_srock2, zg_stug2, zg_ssun, zg_ssun0, zg_srock, zg_srock0, zg_stug, zg_stug0, zg_sord, zg_sord0, zg_srep, zg_srep0, zg_scla, zg_scla0, zg_scon, zg_scon0, zg_swin, zg_swin0, zg_sleg, zg_sleg0, zg_spro, zg_sstp, zg_swrd, zu_srock2, zu_stug2, zu_ssun, zu_ssun0, zu_srock, zu_srock0, zu_stug, zu_stug0, zu_sord, zu_sord0, zu_srep, zu_srep0, zu_scla, zu_scla0, zu_scon, zu_scon0, zu_swin, zu_swin0, zu_sleg, zu_sleg0, zu_spro, zu_sstp, zu_swrd]
    · have e2 : ¬ nI (T i) = 32 := fun q => e ((nI_eq (b := 32) (by omega) (by decide)).mp q)
      rw [if_neg e, zup_same (C 401) 0 5 _ h4, zcs_self, e180_21]
      simp +decide (disch := omega) only [h1, h4, c1, e180_32, t, e2, zpre, ite_self, Nat.reduceAdd, zs1, zs2, zs3, zI_eqb, and_self, not_true_eq_false, if_true, if_false, ite_true, ite_false, not_false_eq_true, zBP, zBZ, zisO, zisA, zlen, decide_true, decide_false, Bool.and_self, Bool.and_true, Bool.true_and, cond_true, cond_false, zBG, zBR, zBU, zBV, zinb_n, zix_n, zlA, zlB, zlM, zlN, zlX, zlI, nI_add, Nat.add_eq_zero_iff, false_and, and_false, and_true, true_and, true_or, or_true, false_or, or_false, zbool_i, zb0, zb1, zshp_0, zcs_eq, zcs_n, zcs_cs, zup_g, zup_n, zg_srock2, zg_stug2, zg_ssun, zg_ssun0, zg_srock, zg_srock0, zg_stug, zg_stug0, zg_sord, zg_sord0, zg_srep, zg_srep0, zg_scla, zg_scla0, zg_scon, zg_scon0, zg_swin, zg_swin0, zg_sleg, zg_sleg0, zg_spro, zg_sstp, zg_swrd, zu_srock2, zu_stug2, zu_ssun, zu_ssun0, zu_srock, zu_srock0, zu_stug, zu_stug0, zu_sord, zu_sord0, zu_srep, zu_srep0, zu_scla, zu_scla0, zu_scon, zu_scon0, zu_swin, zu_swin0, zu_sleg, zu_sleg0, zu_spro, zu_sstp, zu_swrd]
theorem M180_rn (d L p0 p2 r2 r3 s4 : Nat) {T : Nat → Nat} {n k : Nat} (hk : k = 1 ∨ k = 2) (x1 x2 : Int32) : ∀ (m i : Nat) (C : zCt), zMT T n C → C 401 0 6 = nI i → C 401 0 8 = nI k → i + m = n → zR (d + 2) 180 144 [.ref 201, .int x1, .int x2] [] (zZ L, zI C, zPd p0 p2 r2 r3 s4) = zR (d + 2) 180 202 [.ref 201, .int x1, .int x2] [] (zZ L, zI (zcs C 401 (zup (C 401) 0 6 (nI (zrn T k m i)))), zPd p0 p2 r2 r3 s4) := by
  intro m
  induction m with
  | zero =>
    intro i C h h5 h3 hi
    have c1 : nI n ≤ nI i := nI_le (by omega) (by have := h.2.1; omega)
    have h1 := h.1
    have hk3 : ¬ nI k = 3 := fun q => by have := (nI_eq (b := 3) (by omega) (by decide)).mp q; omega
    rw [show zrn T k 0 i = i from rfl, zup_same (C 401) 0 6 _ h5, zcs_self, e180_144]
    simp +decide (disch := omega) only [h1, h5, h3, hk3, c1, e180_152, zpre, ite_self, Nat.reduceAdd, zs1, zs2, zs3, zI_eqb, and_self, not_true_eq_false, if_true, if_false, ite_true, ite_false, not_false_eq_true, zBP, zBZ, zisO, zisA, zlen, decide_true, decide_false, Bool.and_self, Bool.and_true, Bool.true_and, cond_true, cond_false, zBG, zBR, zBU, zBV, zinb_n, zix_n, zlA, zlB, zlM, zlN, zlX, zlI, nI_add, Nat.add_eq_zero_iff, false_and, and_false, and_true, true_and, true_or, or_true, false_or, or_false, zbool_i, zb0, zb1, zshp_0, zcs_eq, zcs_n, zcs_cs, zup_g, zup_n, zg_srock2, zg_stug2, zg_ssun, zg_ssun0, zg_srock, zg_srock0, zg_stug, zg_stug0, zg_sord, zg_sord0, zg_srep, zg_srep0, zg_scla, zg_scla0, zg_scon, zg_scon0, zg_swin, zg_swin0, zg_sleg, zg_sleg0, zg_spro, zg_sstp, zg_swrd, zu_srock2, zu_stug2, zu_ssun, zu_ssun0, zu_srock, zu_srock0, zu_stug, zu_stug0, zu_sord, zu_sord0, zu_srep, zu_srep0, zu_scla, zu_scla0, zu_scon, zu_scon0, zu_swin, zu_swin0, zu_sleg, zu_sleg0, zu_spro, zu_sstp, zu_swrd]
  | succ m IH =>
    intro i C h h5 h3 hi
    have h120 := h.2.1
    have c1 : ¬ nI n ≤ nI i := nI_ge (by omega) (by omega)
    have h1 := h.1
    have hk3 : ¬ nI k = 3 := fun q => by have := (nI_eq (b := 3) (by omega) (by decide)).mp q; omega
    have hk0 : ¬ nI k = 0 := fun q => by have := (nI_eq (b := 0) (by omega) (by decide)).mp q; omega
    have tb := (h.2.2 i (by omega)).1
    have t := M181 d (zZ L) (zI C) (zPd p0 p2 r2 r3 s4) (h.2.2 i (by omega)).2
    have hb := zsrt_r (T i)
    unfold zrn
    by_cases e : zsrt (T i) = k
    · rw [e] at t
      have IH2 := IH (i + 1) (zcs C 401 (zup (C 401) 0 6 (nI (i + 1)))) (zMT_up h (zup_n _ _ (by omega))) (by rw [zcs_eq, zup_g]) (by rw [zcs_eq, zup_n _ _ (by omega)]; exact h3) (by omega)
      rw [zcs_eq, zcs_cs, zup_up] at IH2
      rw [if_pos e, ← IH2, e180_144]
      simp +decide (disch := omega) only [h1, h5, h3, hk3, hk0, c1, e180_152, e180_163, e180_170, e180_182, e180_189, tb, t, zpre, ite_self, Nat.reduceAdd, zs1, zs2, zs3, zI_eqb, and_self, not_true_eq_false, if_true, if_false, ite_true, ite_false, not_false_eq_true, zBP, zBZ, zisO, zisA, zlen, decide_true, decide_false, Bool.and_self, Bool.and_true, Bool.true_and, cond_true, cond_false, zBG, zBR, zBU, zBV, zinb_n, zix_n, zlA, zlB, zlM, zlN, zlX, zlI, nI_add, Nat.add_eq_zero_iff, false_and, and_false, and_true, true_and, true_or, or_true, false_or, or_false, zbool_i, zb0, zb1, zshp_0, zcs_eq, zcs_n, zcs_cs, zup_g, zup_n, zg_srock2, zg_stug2, zg_ssun, zg_ssun0, zg_srock, zg_srock0, zg_stug, zg_stug0, zg_sord, zg_sord0, zg_srep, zg_srep0, zg_scla, zg_scla0, zg_scon, zg_scon0, zg_swin, zg_swin0, zg_sleg, zg_sleg0, zg_spro, zg_sstp, zg_swrd, zu_srock2, zu_stug2, zu_ssun, zu_ssun0, zu_srock, zu_srock0, zu_stug, zu_stug0, zu_sord, zu_sord0, zu_srep, zu_srep0, zu_scla, zu_scla0, zu_scon, zu_scon0, zu_swin, zu_swin0, zu_sleg, zu_sleg0, zu_spro, zu_sstp, zu_swrd]
    · have e2 : ¬ nI (zsrt (T i)) = nI k := fun q => e ((nI_eq (by omega) (by omega)).mp q)
      rw [if_neg e, zup_same (C 401) 0 6 _ h5, zcs_self, e180_144]
      simp +decide (disch := omega) only [h1, h5, h3, hk3, hk0, c1, e180_152, e180_163, e180_170, e180_182, tb, t, e2, zpre, ite_self, Nat.reduceAdd, zs1, zs2, zs3, zI_eqb, and_self, not_true_eq_false, if_true, if_false, ite_true, ite_false, not_false_eq_true, zBP, zBZ, zisO, zisA, zlen, decide_true, decide_false, Bool.and_self, Bool.and_true, Bool.true_and, cond_true, cond_false, zBG, zBR, zBU, zBV, zinb_n, zix_n, zlA, zlB, zlM, zlN, zlX, zlI, nI_add, Nat.add_eq_zero_iff, false_and, and_false, and_true, true_and, true_or, or_true, false_or, or_false, zbool_i, zb0, zb1, zshp_0, zcs_eq, zcs_n, zcs_cs, zup_g, zup_n, zg_srock2, zg_stug2, zg_ssun, zg_ssun0, zg_srock, zg_srock0, zg_stug, zg_stug0, zg_sord, zg_sord0, zg_srep, zg_srep0, zg_scla, zg_scla0, zg_scon, zg_scon0, zg_swin, zg_swin0, zg_sleg, zg_sleg0, zg_spro, zg_sstp, zg_swrd, zu_srock2, zu_stug2, zu_ssun, zu_ssun0, zu_srock, zu_srock0, zu_stug, zu_stug0, zu_sord, zu_sord0, zu_srep, zu_srep0, zu_scla, zu_scla0, zu_scon, zu_scon0, zu_swin, zu_swin0, zu_sleg, zu_sleg0, zu_spro, zu_sstp, zu_swrd]
theorem M182 (d L p0 p2 r2 r3 s4 : Nat) (C : zCt) (h : C 401 0 10 = 0) : zR d 182 0 [.ref 201] [] (zZ L, zI C, zPd p0 p2 r2 r3 s4) = some (none, (zZ L, zI (zcs C 401 (zup (zup (C 401) 0 9 (C 401 0 5)) 0 10 1)), zPd p0 p2 r2 r3 s4)) := by
  simp +decide (disch := omega) only [e182_0, e182_7, e182_15, h, zpre, ite_self, Nat.reduceAdd, zs1, zs2, zs3, zI_eqb, and_self, not_true_eq_false, if_true, if_false, ite_true, ite_false, not_false_eq_true, zBP, zBZ, zisO, zisA, zlen, decide_true, decide_false, Bool.and_self, Bool.and_true, Bool.true_and, cond_true, cond_false, zBG, zBR, zBU, zBV, zinb_n, zix_n, zlA, zlB, zlM, zlN, zlX, zlI, nI_add, Nat.add_eq_zero_iff, false_and, and_false, and_true, true_and, true_or, or_true, false_or, or_false, zbool_i, zb0, zb1, zshp_0, zcs_eq, zcs_n, zcs_cs, zup_g, zup_n, zg_srock2, zg_stug2, zg_ssun, zg_ssun0, zg_srock, zg_srock0, zg_stug, zg_stug0, zg_sord, zg_sord0, zg_srep, zg_srep0, zg_scla, zg_scla0, zg_scon, zg_scon0, zg_swin, zg_swin0, zg_sleg, zg_sleg0, zg_spro, zg_sstp, zg_swrd, zu_srock2, zu_stug2, zu_ssun, zu_ssun0, zu_srock, zu_srock0, zu_stug, zu_stug0, zu_sord, zu_sord0, zu_srep, zu_srep0, zu_scla, zu_scla0, zu_scon, zu_scon0, zu_swin, zu_swin0, zu_sleg, zu_sleg0, zu_spro, zu_sstp, zu_swrd]
theorem M182b (d L p0 p2 r2 r3 s4 : Nat) (C : zCt) (h : C 401 0 10 = 1) : zR d 182 0 [.ref 201] [] (zZ L, zI C, zPd p0 p2 r2 r3 s4) = some (none, (zZ L, zI C, zPd p0 p2 r2 r3 s4)) := by
  have k : zup (C 401) 0 10 1 = C 401 := zup_same _ _ _ _ h
  have k2 : zcs C 401 (zup (C 401) 0 10 1) = C := by rw [k, zcs_self]
  simp +decide (disch := omega) only [e182_0, e182_15, h, k2, zpre, ite_self, Nat.reduceAdd, zs1, zs2, zs3, zI_eqb, and_self, not_true_eq_false, if_true, if_false, ite_true, ite_false, not_false_eq_true, zBP, zBZ, zisO, zisA, zlen, decide_true, decide_false, Bool.and_self, Bool.and_true, Bool.true_and, cond_true, cond_false, zBG, zBR, zBU, zBV, zinb_n, zix_n, zlA, zlB, zlM, zlN, zlX, zlI, nI_add, Nat.add_eq_zero_iff, false_and, and_false, and_true, true_and, true_or, or_true, false_or, or_false, zbool_i, zb0, zb1, zshp_0, zcs_eq, zcs_n, zcs_cs, zup_g, zup_n, zg_srock2, zg_stug2, zg_ssun, zg_ssun0, zg_srock, zg_srock0, zg_stug, zg_stug0, zg_sord, zg_sord0, zg_srep, zg_srep0, zg_scla, zg_scla0, zg_scon, zg_scon0, zg_swin, zg_swin0, zg_sleg, zg_sleg0, zg_spro, zg_sstp, zg_swrd, zu_srock2, zu_stug2, zu_ssun, zu_ssun0, zu_srock, zu_srock0, zu_stug, zu_stug0, zu_sord, zu_sord0, zu_srep, zu_srep0, zu_scla, zu_scla0, zu_scon, zu_scon0, zu_swin, zu_swin0, zu_sleg, zu_sleg0, zu_spro, zu_sstp, zu_swrd]
theorem M180b (d L p0 p2 r2 r3 s4 : Nat) (C : zCt) (h : C 401 0 10 = 1) (v1 v2 : Value) : zR d 180 0 [.ref 201, v1, v2] [] (zZ L, zI C, zPd p0 p2 r2 r3 s4) = some (none, (zZ L, zI C, zPd p0 p2 r2 r3 s4)) := by
  simp +decide (disch := omega) only [e180_0, e180_7, h, zpre, ite_self, Nat.reduceAdd, zs1, zs2, zs3, zI_eqb, and_self, not_true_eq_false, if_true, if_false, ite_true, ite_false, not_false_eq_true, zBP, zBZ, zisO, zisA, zlen, decide_true, decide_false, Bool.and_self, Bool.and_true, Bool.true_and, cond_true, cond_false, zBG, zBR, zBU, zBV, zinb_n, zix_n, zlA, zlB, zlM, zlN, zlX, zlI, nI_add, Nat.add_eq_zero_iff, false_and, and_false, and_true, true_and, true_or, or_true, false_or, or_false, zbool_i, zb0, zb1, zshp_0, zcs_eq, zcs_n, zcs_cs, zup_g, zup_n, zg_srock2, zg_stug2, zg_ssun, zg_ssun0, zg_srock, zg_srock0, zg_stug, zg_stug0, zg_sord, zg_sord0, zg_srep, zg_srep0, zg_scla, zg_scla0, zg_scon, zg_scon0, zg_swin, zg_swin0, zg_sleg, zg_sleg0, zg_spro, zg_sstp, zg_swrd, zu_srock2, zu_stug2, zu_ssun, zu_ssun0, zu_srock, zu_srock0, zu_stug, zu_stug0, zu_sord, zu_sord0, zu_srep, zu_srep0, zu_scla, zu_scla0, zu_scon, zu_scon0, zu_swin, zu_swin0, zu_sleg, zu_sleg0, zu_spro, zu_sstp, zu_swrd]

theorem M180 (d L p0 p2 r2 r3 s4 : Nat) (C : zCt) {T : Nat → Nat} {n : Nat} {x : zLx} (h : zPM T n C x) (hto : x.2.1 ≤ n) (hk : x.2.2 ≤ 3) : ∃ F : zGp, zR (d + 2) 180 0 [.ref 201, zmk, zmk] [] (zZ L, zI C, zPd p0 p2 r2 r3 s4) = some (none, (zZ L, zI (zcs C 401 F), zPd p0 p2 r2 r3 s4)) ∧ (((zadv T n x).2.2 ≠ 5 ∧ zPM T n (zcs C 401 F) (zadv T n x)) ∨ ((zadv T n x).2.2 = 5 ∧ F 0 10 = 1 ∧ F 0 9 = nI (zadv T n x).1 ∧ F 0 5 = nI (zadv T n x).1 ∧ F 0 6 = nI (zadv T n x).2.1 ∧ (F 0 8 = 1 ∨ F 0 8 = 2))) ∧ ∀ f, f ≠ 5 → f ≠ 6 → f ≠ 8 → f ≠ 9 → f ≠ 10 → F 0 f = C 401 0 f := by
  obtain ⟨hL, h8, h5, h6, h10⟩ := h
  have h120 := hL.2.1
  have h7 := hL.1
  have h8 : C 401 0 8 = nI x.2.2 := by rw [h8]; unfold zso; rw [if_neg (by omega)]
  have pb := M180_sp d L p0 p2 r2 r3 s4 (T := T) (n := n) (nI x.2.1) zmk (n - x.2.1) x.2.1 (zcs C 401 (zup (C 401) 0 5 (nI x.2.1))) (zMT_up hL (zup_n _ _ (by omega))) (by rw [zcs_eq, zup_g]) (by omega)
  rw [zcs_eq, zcs_cs, zup_up] at pb
  have pc : zR (d + 2) 180 0 [.ref 201, zmk, zmk] [] (zZ L, zI C, zPd p0 p2 r2 r3 s4) = _ := Eq.trans (by
    simp +decide (disch := omega) only [e180_0, e180_8, h10, h6, zpre, ite_self, Nat.reduceAdd, zs1, zs2, zs3, zI_eqb, and_self, not_true_eq_false, if_true, if_false, ite_true, ite_false, not_false_eq_true, zBP, zBZ, zisO, zisA, zlen, decide_true, decide_false, Bool.and_self, Bool.and_true, Bool.true_and, cond_true, cond_false, zBG, zBR, zBU, zBV, zinb_n, zix_n, zlA, zlB, zlM, zlN, zlX, zlI, nI_add, Nat.add_eq_zero_iff, false_and, and_false, and_true, true_and, true_or, or_true, false_or, or_false, zbool_i, zb0, zb1, zshp_0, zcs_eq, zcs_n, zcs_cs, zup_g, zup_n, zg_srock2, zg_stug2, zg_ssun, zg_ssun0, zg_srock, zg_srock0, zg_stug, zg_stug0, zg_sord, zg_sord0, zg_srep, zg_srep0, zg_scla, zg_scla0, zg_scon, zg_scon0, zg_swin, zg_swin0, zg_sleg, zg_sleg0, zg_spro, zg_sstp, zg_swrd, zu_srock2, zu_stug2, zu_ssun, zu_ssun0, zu_srock, zu_srock0, zu_stug, zu_stug0, zu_sord, zu_sord0, zu_srep, zu_srep0, zu_scla, zu_scla0, zu_scon, zu_scon0, zu_swin, zu_swin0, zu_sleg, zu_sleg0, zu_spro, zu_sstp, zu_swrd]) pb
  obtain ⟨r1, r2'⟩ := zskp_r T (n - x.2.1) x.2.1
  unfold zadv zfr
  obtain ⟨f, hf⟩ : ∃ f, f = zskp T (n - x.2.1) x.2.1 := ⟨_, rfl⟩
  rw [← hf] at pc r1 r2' ⊢
  have pd : zR (d + 2) 180 0 [.ref 201, zmk, zmk] [] (zZ L, zI C, zPd p0 p2 r2 r3 s4) = zR (d + 2) 180 95 [.ref 201, .int (nI x.2.1), zmk] [.int (if (x.2.2 = 1 ∨ x.2.2 = 2) ∧ f = x.2.1 then 1 else 0)] (zZ L, zI (zcs C 401 (zup (zup (C 401) 0 5 (nI f)) 0 6 (nI f))), zPd p0 p2 r2 r3 s4) := by
    rw [pc, e180_59]
    by_cases hfx : f = x.2.1
    · have e1 : nI f = nI x.2.1 := by rw [hfx]
      rcases (show x.2.2 = 0 ∨ x.2.2 = 1 ∨ x.2.2 = 2 ∨ x.2.2 = 3 by omega) with e | e | e | e
      · rw [e] at h8 ⊢
        have h8 : C 401 0 8 = 0 := h8
        rw [if_neg (c := (_ ∨ _) ∧ _) (by omega)]
        simp +decide (disch := omega) only [e1, e180_75, e180_94, h8, zpre, ite_self, Nat.reduceAdd, zs1, zs2, zs3, zI_eqb, and_self, not_true_eq_false, if_true, if_false, ite_true, ite_false, not_false_eq_true, zBP, zBZ, zisO, zisA, zlen, decide_true, decide_false, Bool.and_self, Bool.and_true, Bool.true_and, cond_true, cond_false, zBG, zBR, zBU, zBV, zinb_n, zix_n, zlA, zlB, zlM, zlN, zlX, zlI, nI_add, Nat.add_eq_zero_iff, false_and, and_false, and_true, true_and, true_or, or_true, false_or, or_false, zbool_i, zb0, zb1, zshp_0, zcs_eq, zcs_n, zcs_cs, zup_g, zup_n, zg_srock2, zg_stug2, zg_ssun, zg_ssun0, zg_srock, zg_srock0, zg_stug, zg_stug0, zg_sord, zg_sord0, zg_srep, zg_srep0, zg_scla, zg_scla0, zg_scon, zg_scon0, zg_swin, zg_swin0, zg_sleg, zg_sleg0, zg_spro, zg_sstp, zg_swrd, zu_srock2, zu_stug2, zu_ssun, zu_ssun0, zu_srock, zu_srock0, zu_stug, zu_stug0, zu_sord, zu_sord0, zu_srep, zu_srep0, zu_scla, zu_scla0, zu_scon, zu_scon0, zu_swin, zu_swin0, zu_sleg, zu_sleg0, zu_spro, zu_sstp, zu_swrd]
      · rw [e] at h8 ⊢
        have h8 : C 401 0 8 = 1 := h8
        rw [if_pos (c := (_ ∨ _) ∧ _) (by omega)]
        simp +decide (disch := omega) only [e1, e180_75, e180_82, e180_90, h8, zpre, ite_self, Nat.reduceAdd, zs1, zs2, zs3, zI_eqb, and_self, not_true_eq_false, if_true, if_false, ite_true, ite_false, not_false_eq_true, zBP, zBZ, zisO, zisA, zlen, decide_true, decide_false, Bool.and_self, Bool.and_true, Bool.true_and, cond_true, cond_false, zBG, zBR, zBU, zBV, zinb_n, zix_n, zlA, zlB, zlM, zlN, zlX, zlI, nI_add, Nat.add_eq_zero_iff, false_and, and_false, and_true, true_and, true_or, or_true, false_or, or_false, zbool_i, zb0, zb1, zshp_0, zcs_eq, zcs_n, zcs_cs, zup_g, zup_n, zg_srock2, zg_stug2, zg_ssun, zg_ssun0, zg_srock, zg_srock0, zg_stug, zg_stug0, zg_sord, zg_sord0, zg_srep, zg_srep0, zg_scla, zg_scla0, zg_scon, zg_scon0, zg_swin, zg_swin0, zg_sleg, zg_sleg0, zg_spro, zg_sstp, zg_swrd, zu_srock2, zu_stug2, zu_ssun, zu_ssun0, zu_srock, zu_srock0, zu_stug, zu_stug0, zu_sord, zu_sord0, zu_srep, zu_srep0, zu_scla, zu_scla0, zu_scon, zu_scon0, zu_swin, zu_swin0, zu_sleg, zu_sleg0, zu_spro, zu_sstp, zu_swrd]
      · rw [e] at h8 ⊢
        have h8 : C 401 0 8 = 2 := h8
        rw [if_pos (c := (_ ∨ _) ∧ _) (by omega)]
        simp +decide (disch := omega) only [e1, e180_75, e180_82, e180_90, h8, zpre, ite_self, Nat.reduceAdd, zs1, zs2, zs3, zI_eqb, and_self, not_true_eq_false, if_true, if_false, ite_true, ite_false, not_false_eq_true, zBP, zBZ, zisO, zisA, zlen, decide_true, decide_false, Bool.and_self, Bool.and_true, Bool.true_and, cond_true, cond_false, zBG, zBR, zBU, zBV, zinb_n, zix_n, zlA, zlB, zlM, zlN, zlX, zlI, nI_add, Nat.add_eq_zero_iff, false_and, and_false, and_true, true_and, true_or, or_true, false_or, or_false, zbool_i, zb0, zb1, zshp_0, zcs_eq, zcs_n, zcs_cs, zup_g, zup_n, zg_srock2, zg_stug2, zg_ssun, zg_ssun0, zg_srock, zg_srock0, zg_stug, zg_stug0, zg_sord, zg_sord0, zg_srep, zg_srep0, zg_scla, zg_scla0, zg_scon, zg_scon0, zg_swin, zg_swin0, zg_sleg, zg_sleg0, zg_spro, zg_sstp, zg_swrd, zu_srock2, zu_stug2, zu_ssun, zu_ssun0, zu_srock, zu_srock0, zu_stug, zu_stug0, zu_sord, zu_sord0, zu_srep, zu_srep0, zu_scla, zu_scla0, zu_scon, zu_scon0, zu_swin, zu_swin0, zu_sleg, zu_sleg0, zu_spro, zu_sstp, zu_swrd]
      · rw [e] at h8 ⊢
        have h8 : C 401 0 8 = 3 := h8
        rw [if_neg (c := (_ ∨ _) ∧ _) (by omega)]
        simp +decide (disch := omega) only [e1, e180_75, e180_82, e180_94, h8, zpre, ite_self, Nat.reduceAdd, zs1, zs2, zs3, zI_eqb, and_self, not_true_eq_false, if_true, if_false, ite_true, ite_false, not_false_eq_true, zBP, zBZ, zisO, zisA, zlen, decide_true, decide_false, Bool.and_self, Bool.and_true, Bool.true_and, cond_true, cond_false, zBG, zBR, zBU, zBV, zinb_n, zix_n, zlA, zlB, zlM, zlN, zlX, zlI, nI_add, Nat.add_eq_zero_iff, false_and, and_false, and_true, true_and, true_or, or_true, false_or, or_false, zbool_i, zb0, zb1, zshp_0, zcs_eq, zcs_n, zcs_cs, zup_g, zup_n, zg_srock2, zg_stug2, zg_ssun, zg_ssun0, zg_srock, zg_srock0, zg_stug, zg_stug0, zg_sord, zg_sord0, zg_srep, zg_srep0, zg_scla, zg_scla0, zg_scon, zg_scon0, zg_swin, zg_swin0, zg_sleg, zg_sleg0, zg_spro, zg_sstp, zg_swrd, zu_srock2, zu_stug2, zu_ssun, zu_ssun0, zu_srock, zu_srock0, zu_stug, zu_stug0, zu_sord, zu_sord0, zu_srep, zu_srep0, zu_scla, zu_scla0, zu_scon, zu_scon0, zu_swin, zu_swin0, zu_sleg, zu_sleg0, zu_spro, zu_sstp, zu_swrd]
    · have e1 : ¬ nI f = nI x.2.1 := fun q => hfx ((nI_eq (by omega) (by omega)).mp q)
      rw [if_neg (c := (_ ∨ _) ∧ _) (by omega)]
      simp +decide (disch := omega) only [e1, e180_94, zpre, ite_self, Nat.reduceAdd, zs1, zs2, zs3, zI_eqb, and_self, not_true_eq_false, if_true, if_false, ite_true, ite_false, not_false_eq_true, zBP, zBZ, zisO, zisA, zlen, decide_true, decide_false, Bool.and_self, Bool.and_true, Bool.true_and, cond_true, cond_false, zBG, zBR, zBU, zBV, zinb_n, zix_n, zlA, zlB, zlM, zlN, zlX, zlI, nI_add, Nat.add_eq_zero_iff, false_and, and_false, and_true, true_and, true_or, or_true, false_or, or_false, zbool_i, zb0, zb1, zshp_0, zcs_eq, zcs_n, zcs_cs, zup_g, zup_n, zg_srock2, zg_stug2, zg_ssun, zg_ssun0, zg_srock, zg_srock0, zg_stug, zg_stug0, zg_sord, zg_sord0, zg_srep, zg_srep0, zg_scla, zg_scla0, zg_scon, zg_scon0, zg_swin, zg_swin0, zg_sleg, zg_sleg0, zg_spro, zg_sstp, zg_swrd, zu_srock2, zu_stug2, zu_ssun, zu_ssun0, zu_srock, zu_srock0, zu_stug, zu_stug0, zu_sord, zu_sord0, zu_srep, zu_srep0, zu_scla, zu_scla0, zu_scon, zu_scon0, zu_swin, zu_swin0, zu_sleg, zu_sleg0, zu_spro, zu_sstp, zu_swrd]
  obtain ⟨g, hg⟩ : ∃ g : Int32, g = (if (x.2.2 = 1 ∨ x.2.2 = 2) ∧ f = x.2.1 then 1 else 0) := ⟨_, rfl⟩
  rw [← hg] at pd
  by_cases e : n ≤ f
  · obtain rfl : f = n := by omega
    unfold zadf
    rw [if_pos (Nat.le_refl _)]
    refine ⟨(zup (zup (zup (C 401) 0 5 (nI f)) 0 6 (nI f)) 0 8 0), pd.trans ?_, Or.inl ⟨show (0 : Nat) ≠ 5 by decide, ⟨zMT_up hL (by simp (disch := omega) only [zup_n]), by simp (disch := omega) only [zcs_eq, zup_g, zup_n]; rfl, by simp (disch := omega) only [zcs_eq, zup_g, zup_n], by simp (disch := omega) only [zcs_eq, zup_g, zup_n], by simp (disch := omega) only [zcs_eq, zup_g, zup_n]; exact h10⟩⟩, fun f h1 h2 h3 h4 h5 => by simp (disch := omega) only [zup_n]⟩
    have c1 : nI f ≤ nI f := Int32.le_refl _
    by_cases hg0 : g = 0
    · simp +decide (disch := omega) only [e180_95, e180_108, e180_124, e180_144, e180_152, e180_202, e180_226, h7, c1, hg0, zpre, ite_self, Nat.reduceAdd, zs1, zs2, zs3, zI_eqb, and_self, not_true_eq_false, if_true, if_false, ite_true, ite_false, not_false_eq_true, zBP, zBZ, zisO, zisA, zlen, decide_true, decide_false, Bool.and_self, Bool.and_true, Bool.true_and, cond_true, cond_false, zBG, zBR, zBU, zBV, zinb_n, zix_n, zlA, zlB, zlM, zlN, zlX, zlI, nI_add, Nat.add_eq_zero_iff, false_and, and_false, and_true, true_and, true_or, or_true, false_or, or_false, zbool_i, zb0, zb1, zshp_0, zcs_eq, zcs_n, zcs_cs, zup_g, zup_n, zg_srock2, zg_stug2, zg_ssun, zg_ssun0, zg_srock, zg_srock0, zg_stug, zg_stug0, zg_sord, zg_sord0, zg_srep, zg_srep0, zg_scla, zg_scla0, zg_scon, zg_scon0, zg_swin, zg_swin0, zg_sleg, zg_sleg0, zg_spro, zg_sstp, zg_swrd, zu_srock2, zu_stug2, zu_ssun, zu_ssun0, zu_srock, zu_srock0, zu_stug, zu_stug0, zu_sord, zu_sord0, zu_srep, zu_srep0, zu_scla, zu_scla0, zu_scon, zu_scon0, zu_swin, zu_swin0, zu_sleg, zu_sleg0, zu_spro, zu_sstp, zu_swrd]
    · simp +decide (disch := omega) only [e180_95, e180_108, e180_124, e180_144, e180_152, e180_202, e180_206, e180_214, e180_226, h7, c1, hg0, zpre, ite_self, Nat.reduceAdd, zs1, zs2, zs3, zI_eqb, and_self, not_true_eq_false, if_true, if_false, ite_true, ite_false, not_false_eq_true, zBP, zBZ, zisO, zisA, zlen, decide_true, decide_false, Bool.and_self, Bool.and_true, Bool.true_and, cond_true, cond_false, zBG, zBR, zBU, zBV, zinb_n, zix_n, zlA, zlB, zlM, zlN, zlX, zlI, nI_add, Nat.add_eq_zero_iff, false_and, and_false, and_true, true_and, true_or, or_true, false_or, or_false, zbool_i, zb0, zb1, zshp_0, zcs_eq, zcs_n, zcs_cs, zup_g, zup_n, zg_srock2, zg_stug2, zg_ssun, zg_ssun0, zg_srock, zg_srock0, zg_stug, zg_stug0, zg_sord, zg_sord0, zg_srep, zg_srep0, zg_scla, zg_scla0, zg_scon, zg_scon0, zg_swin, zg_swin0, zg_sleg, zg_sleg0, zg_spro, zg_sstp, zg_swrd, zu_srock2, zu_stug2, zu_ssun, zu_ssun0, zu_srock, zu_srock0, zu_stug, zu_stug0, zu_sord, zu_sord0, zu_srep, zu_srep0, zu_scla, zu_scla0, zu_scon, zu_scon0, zu_swin, zu_swin0, zu_sleg, zu_sleg0, zu_spro, zu_sstp, zu_swrd]
  obtain ⟨k, hk1⟩ : ∃ k, zsrt (T f) = k := ⟨_, rfl⟩
  have hkr := zsrt_r (T f)
  have t := M181 d (zZ L) (zI (zcs C 401 (zup (zup (C 401) 0 5 (nI f)) 0 6 (nI f)))) (zPd p0 p2 r2 r3 s4) (hL.2.2 f (by omega)).2
  have tb := (hL.2.2 f (by omega)).1
  rw [hk1] at hkr t ⊢
  have ef : ¬ nI f = nI n := fun q => e (by rw [(nI_eq (by omega) (by omega)).mp q]; exact Nat.le_refl _)
  obtain ⟨t', ht⟩ : ∃ t, t = zrn T k (n - (f + 1)) (f + 1) := ⟨_, rfl⟩
  have htr := zrn_r T k (n - (f + 1)) (f + 1)
  rw [← ht] at htr ⊢
  unfold zadf
  rw [if_neg e, hk1]
  by_cases k3 : k = 3
  · subst k3
    rw [if_pos rfl]
    have e3 : nI 3 = 3 := rfl
    rw [e3] at t
    refine ⟨(zup (zup (zup (zup (C 401) 0 5 (nI f)) 0 6 (nI f)) 0 8 3) 0 6 (nI (f + 1))), pd.trans ?_, Or.inl ⟨show (3 : Nat) ≠ 5 by decide, ⟨zMT_up hL (by simp (disch := omega) only [zup_n]), by simp (disch := omega) only [zcs_eq, zup_g, zup_n]; rfl, by simp (disch := omega) only [zcs_eq, zup_g, zup_n], by simp (disch := omega) only [zcs_eq, zup_g, zup_n], by simp (disch := omega) only [zcs_eq, zup_g, zup_n]; exact h10⟩⟩, fun f h1 h2 h3 h4 h5 => by simp (disch := omega) only [zup_n]⟩
    by_cases hg0 : g = 0
    · simp +decide (disch := omega) only [e180_95, e180_112, e180_124, e180_134, e180_144, e180_202, e180_226, h7, tb, t, ef, hg0, zpre, ite_self, Nat.reduceAdd, zs1, zs2, zs3, zI_eqb, and_self, not_true_eq_false, if_true, if_false, ite_true, ite_false, not_false_eq_true, zBP, zBZ, zisO, zisA, zlen, decide_true, decide_false, Bool.and_self, Bool.and_true, Bool.true_and, cond_true, cond_false, zBG, zBR, zBU, zBV, zinb_n, zix_n, zlA, zlB, zlM, zlN, zlX, zlI, nI_add, Nat.add_eq_zero_iff, false_and, and_false, and_true, true_and, true_or, or_true, false_or, or_false, zbool_i, zb0, zb1, zshp_0, zcs_eq, zcs_n, zcs_cs, zup_g, zup_n, zg_srock2, zg_stug2, zg_ssun, zg_ssun0, zg_srock, zg_srock0, zg_stug, zg_stug0, zg_sord, zg_sord0, zg_srep, zg_srep0, zg_scla, zg_scla0, zg_scon, zg_scon0, zg_swin, zg_swin0, zg_sleg, zg_sleg0, zg_spro, zg_sstp, zg_swrd, zu_srock2, zu_stug2, zu_ssun, zu_ssun0, zu_srock, zu_srock0, zu_stug, zu_stug0, zu_sord, zu_sord0, zu_srep, zu_srep0, zu_scla, zu_scla0, zu_scon, zu_scon0, zu_swin, zu_swin0, zu_sleg, zu_sleg0, zu_spro, zu_sstp, zu_swrd]
    · simp +decide (disch := omega) only [e180_95, e180_112, e180_124, e180_134, e180_144, e180_202, e180_206, e180_214, e180_226, h7, tb, t, ef, hg0, zpre, ite_self, Nat.reduceAdd, zs1, zs2, zs3, zI_eqb, and_self, not_true_eq_false, if_true, if_false, ite_true, ite_false, not_false_eq_true, zBP, zBZ, zisO, zisA, zlen, decide_true, decide_false, Bool.and_self, Bool.and_true, Bool.true_and, cond_true, cond_false, zBG, zBR, zBU, zBV, zinb_n, zix_n, zlA, zlB, zlM, zlN, zlX, zlI, nI_add, Nat.add_eq_zero_iff, false_and, and_false, and_true, true_and, true_or, or_true, false_or, or_false, zbool_i, zb0, zb1, zshp_0, zcs_eq, zcs_n, zcs_cs, zup_g, zup_n, zg_srock2, zg_stug2, zg_ssun, zg_ssun0, zg_srock, zg_srock0, zg_stug, zg_stug0, zg_sord, zg_sord0, zg_srep, zg_srep0, zg_scla, zg_scla0, zg_scon, zg_scon0, zg_swin, zg_swin0, zg_sleg, zg_sleg0, zg_spro, zg_sstp, zg_swrd, zu_srock2, zu_stug2, zu_ssun, zu_ssun0, zu_srock, zu_srock0, zu_stug, zu_stug0, zu_sord, zu_sord0, zu_srep, zu_srep0, zu_scla, zu_scla0, zu_scon, zu_scon0, zu_swin, zu_swin0, zu_sleg, zu_sleg0, zu_spro, zu_sstp, zu_swrd]
  have hk2 : k = 1 ∨ k = 2 := by omega
  have hk0 : ¬ nI k = 0 := fun q => by have := (nI_eq (b := 0) (by omega) (by decide)).mp q; omega
  have q := M180_rn d L p0 p2 r2 r3 s4 (T := T) (n := n) hk2 (nI x.2.1) g (n - (f + 1)) (f + 1) (zcs C 401 (zup (zup (zup (zup (C 401) 0 5 (nI f)) 0 6 (nI f)) 0 8 (nI k)) 0 6 (nI (f + 1)))) (zMT_up hL (by simp (disch := omega) only [zup_n])) (by rw [zcs_eq, zup_g]) (by rw [zcs_eq, zup_n _ _ (by omega), zup_g]) (by omega)
  rw [zcs_eq, zcs_cs, zup_up, ← ht] at q
  have pe : zR (d + 2) 180 0 [.ref 201, zmk, zmk] [] (zZ L, zI C, zPd p0 p2 r2 r3 s4) = _ := (pd.trans (by
    simp +decide (disch := omega) only [e180_95, e180_112, e180_124, e180_134, h7, tb, t, ef, hk0, zpre, ite_self, Nat.reduceAdd, zs1, zs2, zs3, zI_eqb, and_self, not_true_eq_false, if_true, if_false, ite_true, ite_false, not_false_eq_true, zBP, zBZ, zisO, zisA, zlen, decide_true, decide_false, Bool.and_self, Bool.and_true, Bool.true_and, cond_true, cond_false, zBG, zBR, zBU, zBV, zinb_n, zix_n, zlA, zlB, zlM, zlN, zlX, zlI, nI_add, Nat.add_eq_zero_iff, false_and, and_false, and_true, true_and, true_or, or_true, false_or, or_false, zbool_i, zb0, zb1, zshp_0, zcs_eq, zcs_n, zcs_cs, zup_g, zup_n, zg_srock2, zg_stug2, zg_ssun, zg_ssun0, zg_srock, zg_srock0, zg_stug, zg_stug0, zg_sord, zg_sord0, zg_srep, zg_srep0, zg_scla, zg_scla0, zg_scon, zg_scon0, zg_swin, zg_swin0, zg_sleg, zg_sleg0, zg_spro, zg_sstp, zg_swrd, zu_srock2, zu_stug2, zu_ssun, zu_ssun0, zu_srock, zu_srock0, zu_stug, zu_stug0, zu_sord, zu_sord0, zu_srep, zu_srep0, zu_scla, zu_scla0, zu_scon, zu_scon0, zu_swin, zu_swin0, zu_sleg, zu_sleg0, zu_spro, zu_sstp, zu_swrd])).trans q
  rw [if_neg k3]
  have hk12 : nI k = 1 ∨ (¬ nI k = 1 ∧ nI k = 2) := by
    rcases hk2 with rfl | rfl
    · exact Or.inl rfl
    · exact Or.inr ⟨by decide, rfl⟩
  by_cases hgl : (x.2.2 = 1 ∨ x.2.2 = 2) ∧ f = x.2.1
  · rw [if_pos hgl] at hg ⊢
    subst hg
    refine ⟨(zup (zup (zup (zup (zup (zup (C 401) 0 5 (nI f)) 0 6 (nI f)) 0 8 (nI k)) 0 6 (nI t')) 0 9 (nI f)) 0 10 1), pe.trans ?_, Or.inr ⟨rfl, by simp (disch := omega) only [zup_g], by simp (disch := omega) only [zup_g, zup_n], by simp (disch := omega) only [zup_g, zup_n], by simp (disch := omega) only [zup_g, zup_n], by simp (disch := omega) only [zup_g, zup_n]; exact hk12.elim Or.inl (fun q => Or.inr q.2)⟩, fun f h1 h2 h3 h4 h5 => by simp (disch := omega) only [zup_n]⟩
    have tw := M182 (d + 1) L p0 p2 r2 r3 s4 (zcs C 401 (zup (zup (zup (zup (C 401) 0 5 (nI f)) 0 6 (nI f)) 0 8 (nI k)) 0 6 (nI t'))) (by simp (disch := omega) only [zcs_eq, zup_n]; exact h10)
    simp (disch := omega) only [zcs_eq, zcs_cs, zup_g, zup_n] at tw
    rcases hk12 with q | ⟨q, q2⟩
    · have q := eq_true q
      simp +decide (disch := omega) only [e180_202, e180_206, e180_222, e180_226, q, tw, zpre, ite_self, Nat.reduceAdd, zs1, zs2, zs3, zI_eqb, and_self, not_true_eq_false, if_true, if_false, ite_true, ite_false, not_false_eq_true, zBP, zBZ, zisO, zisA, zlen, decide_true, decide_false, Bool.and_self, Bool.and_true, Bool.true_and, cond_true, cond_false, zBG, zBR, zBU, zBV, zinb_n, zix_n, zlA, zlB, zlM, zlN, zlX, zlI, nI_add, Nat.add_eq_zero_iff, false_and, and_false, and_true, true_and, true_or, or_true, false_or, or_false, zbool_i, zb0, zb1, zshp_0, zcs_eq, zcs_n, zcs_cs, zup_g, zup_n, zg_srock2, zg_stug2, zg_ssun, zg_ssun0, zg_srock, zg_srock0, zg_stug, zg_stug0, zg_sord, zg_sord0, zg_srep, zg_srep0, zg_scla, zg_scla0, zg_scon, zg_scon0, zg_swin, zg_swin0, zg_sleg, zg_sleg0, zg_spro, zg_sstp, zg_swrd, zu_srock2, zu_stug2, zu_ssun, zu_ssun0, zu_srock, zu_srock0, zu_stug, zu_stug0, zu_sord, zu_sord0, zu_srep, zu_srep0, zu_scla, zu_scla0, zu_scon, zu_scon0, zu_swin, zu_swin0, zu_sleg, zu_sleg0, zu_spro, zu_sstp, zu_swrd]
    · have q2 := eq_true q2
      simp +decide (disch := omega) only [e180_202, e180_206, e180_214, e180_222, e180_226, q, q2, tw, zpre, ite_self, Nat.reduceAdd, zs1, zs2, zs3, zI_eqb, and_self, not_true_eq_false, if_true, if_false, ite_true, ite_false, not_false_eq_true, zBP, zBZ, zisO, zisA, zlen, decide_true, decide_false, Bool.and_self, Bool.and_true, Bool.true_and, cond_true, cond_false, zBG, zBR, zBU, zBV, zinb_n, zix_n, zlA, zlB, zlM, zlN, zlX, zlI, nI_add, Nat.add_eq_zero_iff, false_and, and_false, and_true, true_and, true_or, or_true, false_or, or_false, zbool_i, zb0, zb1, zshp_0, zcs_eq, zcs_n, zcs_cs, zup_g, zup_n, zg_srock2, zg_stug2, zg_ssun, zg_ssun0, zg_srock, zg_srock0, zg_stug, zg_stug0, zg_sord, zg_sord0, zg_srep, zg_srep0, zg_scla, zg_scla0, zg_scon, zg_scon0, zg_swin, zg_swin0, zg_sleg, zg_sleg0, zg_spro, zg_sstp, zg_swrd, zu_srock2, zu_stug2, zu_ssun, zu_ssun0, zu_srock, zu_srock0, zu_stug, zu_stug0, zu_sord, zu_sord0, zu_srep, zu_srep0, zu_scla, zu_scla0, zu_scon, zu_scon0, zu_swin, zu_swin0, zu_sleg, zu_sleg0, zu_spro, zu_sstp, zu_swrd]
  · rw [if_neg hgl] at hg ⊢
    subst hg
    have hk4 : zso (if k = 2 ∧ 5 < t' - f then (f, t', 4) else (f, t', k) : zLx).2.2 = k := by
      unfold zso
      split
      · rename_i q; rw [if_pos rfl]; exact q.1.symm
      · rw [if_neg (show ¬ k = 4 by omega)]
    refine ⟨(zup (zup (zup (zup (C 401) 0 5 (nI f)) 0 6 (nI f)) 0 8 (nI k)) 0 6 (nI t')), pe.trans ?_, Or.inl ⟨?_, ?_⟩, fun f h1 h2 h3 h4 h5 => by simp (disch := omega) only [zup_n]⟩
    · simp +decide (disch := omega) only [e180_202, e180_226, zpre, ite_self, Nat.reduceAdd, zs1, zs2, zs3, zI_eqb, and_self, not_true_eq_false, if_true, if_false, ite_true, ite_false, not_false_eq_true, zBP, zBZ, zisO, zisA, zlen, decide_true, decide_false, Bool.and_self, Bool.and_true, Bool.true_and, cond_true, cond_false, zBG, zBR, zBU, zBV, zinb_n, zix_n, zlA, zlB, zlM, zlN, zlX, zlI, nI_add, Nat.add_eq_zero_iff, false_and, and_false, and_true, true_and, true_or, or_true, false_or, or_false, zbool_i, zb0, zb1, zshp_0, zcs_eq, zcs_n, zcs_cs, zup_g, zup_n, zg_srock2, zg_stug2, zg_ssun, zg_ssun0, zg_srock, zg_srock0, zg_stug, zg_stug0, zg_sord, zg_sord0, zg_srep, zg_srep0, zg_scla, zg_scla0, zg_scon, zg_scon0, zg_swin, zg_swin0, zg_sleg, zg_sleg0, zg_spro, zg_sstp, zg_swrd, zu_srock2, zu_stug2, zu_ssun, zu_ssun0, zu_srock, zu_srock0, zu_stug, zu_stug0, zu_sord, zu_sord0, zu_srep, zu_srep0, zu_scla, zu_scla0, zu_scon, zu_scon0, zu_swin, zu_swin0, zu_sleg, zu_sleg0, zu_spro, zu_sstp, zu_swrd]
    · split
      · show (4 : Nat) ≠ 5
        decide
      · show k ≠ 5
        omega
    · unfold zPM
      rw [hk4]
      refine ⟨zMT_up hL (by simp (disch := omega) only [zup_n]), by simp (disch := omega) only [zcs_eq, zup_g, zup_n], ?_, ?_, by simp (disch := omega) only [zcs_eq, zup_g, zup_n]; exact h10⟩
      · split <;> simp (disch := omega) only [zcs_eq, zup_g, zup_n]
      · split <;> simp (disch := omega) only [zcs_eq, zup_g, zup_n]

