/-! THE PROGRAM: an E in the model (1), printed by wip/gen/pub64.py -/
def zFE (j : Nat) (C C' : zCt) : Prop := (∀ g, g ≠ 401 → g ≠ 406 → g ≠ 409 → C' g = C g) ∧ (∀ f, f ≠ 5 → f ≠ 6 → f ≠ 8 → f ≠ 9 → f ≠ 10 → f ≠ 14 → f ≠ 21 → f ≠ 22 → f ≠ 23 → C' 401 0 f = C 401 0 f) ∧ ∀ i, i < 2 * j → C' 406 0 i = C 406 0 i
theorem zFE_r (j : Nat) (C : zCt) : zFE j C C := ⟨fun _ _ _ _ => rfl, fun _ _ _ _ _ _ _ _ _ _ => rfl, fun _ _ => rfl⟩
theorem zFE_t {j k : Nat} {A B C : zCt} (h1 : zFE j A B) (h2 : zFE k B C) (hj : j ≤ k) : zFE j A C := ⟨fun g a b c => (h2.1 g a b c).trans (h1.1 g a b c), fun f a1 a2 a3 a4 a5 a6 a7 a8 a9 => (h2.2.1 f a1 a2 a3 a4 a5 a6 a7 a8 a9).trans (h1.2.1 f a1 a2 a3 a4 a5 a6 a7 a8 a9), fun i hi => (h2.2.2 i (by omega)).trans (h1.2.2 i hi)⟩
theorem zFE_X {j : Nat} {C C' : zCt} (h : zFX j C C') : zFE j C C' := ⟨fun g a b _ => h.1 g a b, fun f _ _ _ _ _ a6 a7 a8 a9 => h.2.1 f a6 a7 a8 a9, h.2.2⟩
theorem zFE_w {j k : Nat} {C C' : zCt} (h : zFE j C C') (hk : k ≤ j) : zFE k C C' := ⟨h.1, h.2.1, fun i hi => h.2.2 i (by omega)⟩
theorem zFE_4 (j : Nat) {C : zCt} {F : zGp} (h : ∀ f, f ≠ 5 → f ≠ 6 → f ≠ 8 → f ≠ 9 → f ≠ 10 → F 0 f = C 401 0 f) : zFE j C (zcs C 401 F) := ⟨fun g a _ _ => by rw [zcs_n _ _ a], fun f a1 a2 a3 a4 a5 _ _ _ _ => by rw [zcs_eq]; exact h f a1 a2 a3 a4 a5, fun i _ => by rw [zcs_n _ _ (by decide)]⟩
/-- something is wrong, at f -/
def zsf (C : zCt) : Prop := C 401 0 8 = 3 → ∃ f, f < 120 ∧ C 401 0 5 = nI f
def zBd (C C' : zCt) (f : Nat) : Prop := C' 401 0 10 = 1 ∧ C' 401 0 9 = nI f ∧ zFE 0 C C' ∧ zsf C'
theorem zBd_t {j : Nat} {A B C : zCt} {f : Nat} (h1 : zFE j A B) (h2 : zBd B C f) : zBd A C f := ⟨h2.1, h2.2.1, zFE_t (zFE_w h1 (by omega)) h2.2.2.1 (Nat.le_refl _), h2.2.2.2⟩
theorem zsf_12 {C : zCt} (h : C 401 0 8 = 1 ∨ C 401 0 8 = 2) : zsf C := by
  intro q
  rcases h with w | w <;> rw [w] at q <;> exact absurd q (by decide)
def zME (T : Nat → Nat) (n : Nat) (C : zCt) (x : zLx) (b s : Nat) (K : List Nat) (j : Nat) : Prop := zPM T n C x ∧ zSK C b s K j ∧ j + K.length ≤ x.1
theorem zPM_X {T : Nat → Nat} {n j : Nat} {C C' : zCt} {x : zLx} (h : zPM T n C x) (hf : zFX j C C') : zPM T n C' x := by
  unfold zPM zMT at *
  rw [hf.1 404 (by decide) (by decide), hf.2.1 7 (by decide) (by decide) (by decide) (by decide), hf.2.1 8 (by decide) (by decide) (by decide) (by decide), hf.2.1 5 (by decide) (by decide) (by decide) (by decide), hf.2.1 6 (by decide) (by decide) (by decide) (by decide), hf.2.1 10 (by decide) (by decide) (by decide) (by decide)]
  exact h
theorem zSK_4 {C : zCt} {b s j : Nat} {K : List Nat} (h : zSK C b s K j) {F : zGp} (hF : ∀ f, f ≠ 5 → f ≠ 6 → f ≠ 8 → f ≠ 9 → f ≠ 10 → F 0 f = C 401 0 f) : zSK (zcs C 401 F) b s K j := by
  unfold zSK at *
  rw [zcs_eq, zcs_n _ _ (by decide), hF 22 (by decide) (by decide) (by decide) (by decide) (by decide), hF 23 (by decide) (by decide) (by decide) (by decide) (by decide), hF 21 (by decide) (by decide) (by decide) (by decide) (by decide), hF 14 (by decide) (by decide) (by decide) (by decide) (by decide)]
  exact h
theorem zsf_M {T : Nat → Nat} {n : Nat} {C C' : zCt} {x : zLx} (h : zPM T n C x) (hk : zTk T n x) (h8 : C' 401 0 8 = C 401 0 8) (h5 : C' 401 0 5 = C 401 0 5) : zsf C' := by
  intro q
  rw [h8, h.2.1] at q
  have h5k := hk.2.2.1
  have hk3 : x.2.2 = 3 := by
    unfold zso at q
    split at q
    · exact absurd q (by decide)
    · exact (nI_eq (b := 3) (by omega) (by decide)).mp q
  have h120 := h.1.2.1
  exact ⟨x.1, by have := zPC_lt hk (show x.2.2 ≠ 0 by omega); omega, by rw [h5]; exact h.2.2.1⟩
theorem M19_bad (d L p0 p2 r2 r3 s4 : Nat) (C : zCt) (h : C 401 0 10 = 1) (w : Int32) (v3 : Value) : zR (d + 6) 192 19 [.ref 201, .int w, .int 1, v3] [] (zZ L, zI C, zPd p0 p2 r2 r3 s4) = some (none, (zZ L, zI C, zPd p0 p2 r2 r3 s4)) := by
  rw [e192_19]
  simp +decide (disch := omega) only [e192_23, e192_208, e192_220, h, zpre, ite_self, Nat.reduceAdd, zs1, zs2, zs3, zI_eqb, and_self, not_true_eq_false, if_true, if_false, ite_true, ite_false, not_false_eq_true, zBP, zBZ, zisO, zisA, zlen, decide_true, decide_false, Bool.and_self, Bool.and_true, Bool.true_and, cond_true, cond_false, zBG, zBR, zBU, zBV, zinb_n, zix_n, zlA, zlB, zlM, zlN, zlX, zlI, nI_add, Nat.add_eq_zero_iff, false_and, and_false, and_true, true_and, true_or, or_true, false_or, or_false, zbool_i, zb0, zb1, zshp_0, zcs_eq, zcs_n, zcs_cs, zup_g, zup_n, zg_srock2, zg_stug2, zg_ssun, zg_ssun0, zg_srock, zg_srock0, zg_stug, zg_stug0, zg_sord, zg_sord0, zg_srep, zg_srep0, zg_scla, zg_scla0, zg_scon, zg_scon0, zg_swin, zg_swin0, zg_sleg, zg_sleg0, zg_spro, zg_sstp, zg_swrd, zu_srock2, zu_stug2, zu_ssun, zu_ssun0, zu_srock, zu_srock0, zu_stug, zu_stug0, zu_sord, zu_sord0, zu_srep, zu_srep0, zu_scla, zu_scla0, zu_scon, zu_scon0, zu_swin, zu_swin0, zu_sleg, zu_sleg0, zu_spro, zu_sstp, zu_swrd]
theorem M191_l (d L p0 p2 r2 r3 s4 : Nat) (C : zCt) {T : Nat → Nat} {n : Nat} (h : zMT T n C) {t : Nat} (ht : t ≤ n) (h6 : C 401 0 6 = nI t) : ∀ (m i : Nat) (a : Int32), i + m = t → zR d 191 34 [.ref 201, .int a, .int (nI i)] [] (zZ L, zI C, zPd p0 p2 r2 r3 s4) = zR d 191 63 [.ref 201, .int (zvl T m i a), .int (nI t)] [] (zZ L, zI C, zPd p0 p2 r2 r3 s4) := by
  have h120 := h.2.1
  intro m
  induction m with
  | zero =>
    intro i a hi
    obtain rfl : i = t := by omega
    have c1 : nI i ≤ nI i := Int32.le_refl _
    rw [e191_34, show zvl T 0 i a = a from rfl]
    simp +decide (disch := omega) only [h6, c1, zpre, ite_self, Nat.reduceAdd, zs1, zs2, zs3, zI_eqb, and_self, not_true_eq_false, if_true, if_false, ite_true, ite_false, not_false_eq_true, zBP, zBZ, zisO, zisA, zlen, decide_true, decide_false, Bool.and_self, Bool.and_true, Bool.true_and, cond_true, cond_false, zBG, zBR, zBU, zBV, zinb_n, zix_n, zlA, zlB, zlM, zlN, zlX, zlI, nI_add, Nat.add_eq_zero_iff, false_and, and_false, and_true, true_and, true_or, or_true, false_or, or_false, zbool_i, zb0, zb1, zshp_0, zcs_eq, zcs_n, zcs_cs, zup_g, zup_n, zg_srock2, zg_stug2, zg_ssun, zg_ssun0, zg_srock, zg_srock0, zg_stug, zg_stug0, zg_sord, zg_sord0, zg_srep, zg_srep0, zg_scla, zg_scla0, zg_scon, zg_scon0, zg_swin, zg_swin0, zg_sleg, zg_sleg0, zg_spro, zg_sstp, zg_swrd, zu_srock2, zu_stug2, zu_ssun, zu_ssun0, zu_srock, zu_srock0, zu_stug, zu_stug0, zu_sord, zu_sord0, zu_srep, zu_srep0, zu_scla, zu_scla0, zu_scon, zu_scon0, zu_swin, zu_swin0, zu_sleg, zu_sleg0, zu_spro, zu_sstp, zu_swrd]
  | succ m IH =>
    intro i a hi
    have c1 : ¬ nI t ≤ nI i := nI_ge (by omega) (by omega)
    have q := (h.2.2 i (by omega)).1
    have IH2 := IH (i + 1) (a * 10 + nI (T i) - 48) (by omega)
    rw [e191_34, show zvl T (m + 1) i a = zvl T m (i + 1) (a * 10 + nI (T i) - 48) from rfl, ← IH2, Int32.mul_comm a 10]
    simp +decide (disch := omega) only [h6, c1, e191_42, q, zpre, ite_self, Nat.reduceAdd, zs1, zs2, zs3, zI_eqb, and_self, not_true_eq_false, if_true, if_false, ite_true, ite_false, not_false_eq_true, zBP, zBZ, zisO, zisA, zlen, decide_true, decide_false, Bool.and_self, Bool.and_true, Bool.true_and, cond_true, cond_false, zBG, zBR, zBU, zBV, zinb_n, zix_n, zlA, zlB, zlM, zlN, zlX, zlI, nI_add, Nat.add_eq_zero_iff, false_and, and_false, and_true, true_and, true_or, or_true, false_or, or_false, zbool_i, zb0, zb1, zshp_0, zcs_eq, zcs_n, zcs_cs, zup_g, zup_n, zg_srock2, zg_stug2, zg_ssun, zg_ssun0, zg_srock, zg_srock0, zg_stug, zg_stug0, zg_sord, zg_sord0, zg_srep, zg_srep0, zg_scla, zg_scla0, zg_scon, zg_scon0, zg_swin, zg_swin0, zg_sleg, zg_sleg0, zg_spro, zg_sstp, zg_swrd, zu_srock2, zu_stug2, zu_ssun, zu_ssun0, zu_srock, zu_srock0, zu_stug, zu_stug0, zu_sord, zu_sord0, zu_srep, zu_srep0, zu_scla, zu_scla0, zu_scon, zu_scon0, zu_swin, zu_swin0, zu_sleg, zu_sleg0, zu_spro, zu_sstp, zu_swrd]
theorem M191_y (d L p0 p2 r2 r3 s4 : Nat) (C : zCt) {T : Nat → Nat} {n : Nat} {x : zLx} (h : zPM T n C x) (hk : zTk T n x) (hkind : x.2.2 = 2) : ∃ F : zGp, zR (d + 3) 191 0 [.ref 201, zmk, zmk] [] (zZ L, zI C, zPd p0 p2 r2 r3 s4) = some (some (.int (zvl T (x.2.1 - x.1) x.1 0)), (zZ L, zI (zcs C 401 F), zPd p0 p2 r2 r3 s4)) ∧ (((zadv T n x).2.2 ≠ 5 ∧ zPM T n (zcs C 401 F) (zadv T n x)) ∨ ((zadv T n x).2.2 = 5 ∧ F 0 10 = 1 ∧ F 0 9 = nI (zadv T n x).1 ∧ F 0 5 = nI (zadv T n x).1 ∧ F 0 6 = nI (zadv T n x).2.1 ∧ (F 0 8 = 1 ∨ F 0 8 = 2))) ∧ ∀ f, f ≠ 5 → f ≠ 6 → f ≠ 8 → f ≠ 9 → f ≠ 10 → F 0 f = C 401 0 f := by
  obtain ⟨F, t, f2, f3⟩ := M180 d L p0 p2 r2 r3 s4 C h hk.2.1 (by rw [hkind]; decide)
  refine ⟨F, ?_, f2, f3⟩
  have h1 := hk.1
  have h2 := hk.2.1
  have h5l := hk.2.2.2.2.2.2.2.1 hkind
  have h120 := h.1.2.1
  have q := M191_l (d + 3) L p0 p2 r2 r3 s4 C h.1 hk.2.1 h.2.2.2.1 (x.2.1 - x.1) x.1 0 (by omega)
  obtain ⟨hL, h8, h5, h6, h10⟩ := h
  rw [hkind] at h8
  have h8 : C 401 0 8 = 2 := h8
  have c1 : nI x.2.1 - nI x.1 ≤ 5 := by rw [nI_sub h1]; exact nI_le (b := 5) h5l (by decide)
  simp +decide (disch := omega) only [e191_0, e191_8, e191_27, e191_63, e191_67, h8, h5, h6, c1, q, t, zpre, ite_self, Nat.reduceAdd, zs1, zs2, zs3, zI_eqb, and_self, not_true_eq_false, if_true, if_false, ite_true, ite_false, not_false_eq_true, zBP, zBZ, zisO, zisA, zlen, decide_true, decide_false, Bool.and_self, Bool.and_true, Bool.true_and, cond_true, cond_false, zBG, zBR, zBU, zBV, zinb_n, zix_n, zlA, zlB, zlM, zlN, zlX, zlI, nI_add, Nat.add_eq_zero_iff, false_and, and_false, and_true, true_and, true_or, or_true, false_or, or_false, zbool_i, zb0, zb1, zshp_0, zcs_eq, zcs_n, zcs_cs, zup_g, zup_n, zg_srock2, zg_stug2, zg_ssun, zg_ssun0, zg_srock, zg_srock0, zg_stug, zg_stug0, zg_sord, zg_sord0, zg_srep, zg_srep0, zg_scla, zg_scla0, zg_scon, zg_scon0, zg_swin, zg_swin0, zg_sleg, zg_sleg0, zg_spro, zg_sstp, zg_swrd, zu_srock2, zu_stug2, zu_ssun, zu_ssun0, zu_srock, zu_srock0, zu_stug, zu_stug0, zu_sord, zu_sord0, zu_srep, zu_srep0, zu_scla, zu_scla0, zu_scon, zu_scon0, zu_swin, zu_swin0, zu_sleg, zu_sleg0, zu_spro, zu_sstp, zu_swrd]
theorem M191_n (d L p0 p2 r2 r3 s4 : Nat) (C : zCt) {T : Nat → Nat} {n : Nat} {x : zLx} (h : zPM T n C x) (hk : zTk T n x) (hkind : x.2.2 ≠ 2) : zR (d + 1) 191 0 [.ref 201, zmk, zmk] [] (zZ L, zI C, zPd p0 p2 r2 r3 s4) = some (some (.int 0), (zZ L, zI (zcs C 401 (zup (zup (C 401) 0 9 (nI x.1)) 0 10 1)), zPd p0 p2 r2 r3 s4)) := by
  have t := M182 d L p0 p2 r2 r3 s4 C h.2.2.2.2
  have h1 := hk.1
  have h2 := hk.2.1
  have h120 := h.1.2.1
  have h5k := hk.2.2.1
  obtain ⟨hL, h8, h5, h6, h10⟩ := h
  rw [h5] at t
  by_cases e : x.2.2 = 4
  · have h4l := hk.2.2.2.2.2.2.2.2 e
    rw [e] at h8
    have h8 : C 401 0 8 = 2 := h8
    have c1 : ¬ nI x.2.1 - nI x.1 ≤ 5 := by rw [nI_sub h1]; exact nI_ge (a := 5) h4l (by omega)
    simp +decide (disch := omega) only [e191_0, e191_8, e191_21, e191_25, h8, h5, h6, c1, t, zpre, ite_self, Nat.reduceAdd, zs1, zs2, zs3, zI_eqb, and_self, not_true_eq_false, if_true, if_false, ite_true, ite_false, not_false_eq_true, zBP, zBZ, zisO, zisA, zlen, decide_true, decide_false, Bool.and_self, Bool.and_true, Bool.true_and, cond_true, cond_false, zBG, zBR, zBU, zBV, zinb_n, zix_n, zlA, zlB, zlM, zlN, zlX, zlI, nI_add, Nat.add_eq_zero_iff, false_and, and_false, and_true, true_and, true_or, or_true, false_or, or_false, zbool_i, zb0, zb1, zshp_0, zcs_eq, zcs_n, zcs_cs, zup_g, zup_n, zg_srock2, zg_stug2, zg_ssun, zg_ssun0, zg_srock, zg_srock0, zg_stug, zg_stug0, zg_sord, zg_sord0, zg_srep, zg_srep0, zg_scla, zg_scla0, zg_scon, zg_scon0, zg_swin, zg_swin0, zg_sleg, zg_sleg0, zg_spro, zg_sstp, zg_swrd, zu_srock2, zu_stug2, zu_ssun, zu_ssun0, zu_srock, zu_srock0, zu_stug, zu_stug0, zu_sord, zu_sord0, zu_srep, zu_srep0, zu_scla, zu_scla0, zu_scon, zu_scon0, zu_swin, zu_swin0, zu_sleg, zu_sleg0, zu_spro, zu_sstp, zu_swrd]
  · have h8' : ¬ C 401 0 8 = 2 := by
      rw [h8]
      unfold zso
      rw [if_neg e]
      exact fun q => hkind ((nI_eq (b := 2) (by omega) (by decide)).mp q)
    simp +decide (disch := omega) only [e191_0, e191_21, e191_25, h8', t, zpre, ite_self, Nat.reduceAdd, zs1, zs2, zs3, zI_eqb, and_self, not_true_eq_false, if_true, if_false, ite_true, ite_false, not_false_eq_true, zBP, zBZ, zisO, zisA, zlen, decide_true, decide_false, Bool.and_self, Bool.and_true, Bool.true_and, cond_true, cond_false, zBG, zBR, zBU, zBV, zinb_n, zix_n, zlA, zlB, zlM, zlN, zlX, zlI, nI_add, Nat.add_eq_zero_iff, false_and, and_false, and_true, true_and, true_or, or_true, false_or, or_false, zbool_i, zb0, zb1, zshp_0, zcs_eq, zcs_n, zcs_cs, zup_g, zup_n, zg_srock2, zg_stug2, zg_ssun, zg_ssun0, zg_srock, zg_srock0, zg_stug, zg_stug0, zg_sord, zg_sord0, zg_srep, zg_srep0, zg_scla, zg_scla0, zg_scon, zg_scon0, zg_swin, zg_swin0, zg_sleg, zg_sleg0, zg_spro, zg_sstp, zg_swrd, zu_srock2, zu_stug2, zu_ssun, zu_ssun0, zu_srock, zu_srock0, zu_stug, zu_stug0, zu_sord, zu_sord0, zu_srep, zu_srep0, zu_scla, zu_scla0, zu_scon, zu_scon0, zu_swin, zu_swin0, zu_sleg, zu_sleg0, zu_spro, zu_sstp, zu_swrd]

/-- a part, in the model: words ws, then what stands ahead -/
def zVt (L p0 p2 r2 r3 s4 : Nat) (T : Nat → Nat) (n : Nat) (x : zLx) (b s : Nat) (ws : List (Int32 × Int32)) (x' : zLx) : Prop := ∀ (d : Nat) (C : zCt) (Q K : List Nat) (j : Nat) (v3 : Value) (s0 : Nat), zME T n C x b s (Q ++ K) j → s = s0 + Q.length → (∀ o, o ∈ Q → o = 3 ∨ o = 4) → (∀ a r, K = a :: r → a ≠ 3 ∧ a ≠ 4) → (x'.2.2 = 5 ∧ ∃ C', zR (d + 6) 192 19 [.ref 201, .int 1, .int 1, v3] [] (zZ L, zI C, zPd p0 p2 r2 r3 s4) = some (none, (zZ L, zI C', zPd p0 p2 r2 r3 s4)) ∧ zBd C C' x'.1) ∨ (x'.2.2 ≠ 5 ∧ ∃ (C' : zCt) (v3' : Value), zR (d + 6) 192 19 [.ref 201, .int 1, .int 1, v3] [] (zZ L, zI C, zPd p0 p2 r2 r3 s4) = zR (d + 6) 192 19 [.ref 201, .int 0, .int 1, v3'] [] (zZ L, zI C', zPd p0 p2 r2 r3 s4) ∧ zME T n C' x' b s0 K (j + ws.length + Q.length) ∧ zFE j C C' ∧ zmr (C' 406 0) j (ws ++ Q.map zow))
def zVf (L p0 p2 r2 r3 s4 : Nat) (T : Nat → Nat) (n : Nat) (x : zLx) (b s : Nat) (x' : zLx) : Prop := ∀ (d : Nat) (C : zCt) (Q K : List Nat) (j : Nat) (v3 : Value) (s0 : Nat), zME T n C x b s (Q ++ K) j → s = s0 + Q.length → (∀ o, o ∈ Q → o = 3 ∨ o = 4) → (∀ a r, K = a :: r → a ≠ 3 ∧ a ≠ 4) → ∃ C', zR (d + 6) 192 19 [.ref 201, .int 1, .int 1, v3] [] (zZ L, zI C, zPd p0 p2 r2 r3 s4) = some (none, (zZ L, zI C', zPd p0 p2 r2 r3 s4)) ∧ zBd C C' x'.1

theorem V_num (L p0 p2 r2 r3 s4 : Nat) (T : Nat → Nat) (n : Nat) (x : zLx) (b s : Nat) (hk : zTk T n x) (hkind : x.2.2 = 2) : zVt L p0 p2 r2 r3 s4 T n x b s [(1, zvl T (x.2.1 - x.1) x.1 0)] (zadv T n x) := by
  intro d C Q K j v3 s0 hC hs0 hQ hK
  obtain ⟨hM, hS, hjx⟩ := hC
  have ha := zadv_k T n x hk.2.1
  have hlt := hk.2.2.2.2.1 (by rw [hkind]; decide)
  have h120 := hM.1.2.1
  have hn := hk.2.1
  have h10 := hM.2.2.2.2
  have t1 : ∀ d, zR d 183 0 [.ref 201, .int 33] [] (zZ L, zI C, zPd p0 p2 r2 r3 s4) = _ := fun d => M183_n d L p0 p2 r2 r3 s4 C hM hk (c := 33) (by decide) (zsg0 (by rw [hkind]; decide))
  have t2 : ∀ d, zR d 183 0 [.ref 201, .int 45] [] (zZ L, zI C, zPd p0 p2 r2 r3 s4) = _ := fun d => M183_n d L p0 p2 r2 r3 s4 C hM hk (c := 45) (by decide) (zsg0 (by rw [hkind]; decide))
  have t3 : ∀ d, zR d 183 0 [.ref 201, .int 40] [] (zZ L, zI C, zPd p0 p2 r2 r3 s4) = _ := fun d => M183_n d L p0 p2 r2 r3 s4 C hM hk (c := 40) (by decide) (zsg0 (by rw [hkind]; decide))
  obtain ⟨F, tn, f2, f3⟩ := M191_y (d + 1) L p0 p2 r2 r3 s4 C hM hk hkind
  have h8 : C 401 0 8 = 2 := by have := hM.2.1; rw [hkind] at this; exact this
  have k1 := zSK_4 hS f3
  obtain ⟨n2, g2, m2⟩ := zSK_em k1 (by omega) 1 (zvl T (x.2.1 - x.1) x.1 0)
  have te := M194 (d + 4) L p0 p2 r2 r3 s4 (zcs C 401 F) (j := j) (by omega) k1.2.2.2.2.1 1 (zvl T (x.2.1 - x.1) x.1 0)
  obtain ⟨C2, hC2⟩ : ∃ C2, C2 = (zcs (zcs (zcs C 401 F) 406 (zup (zup ((zcs C 401 F) 406) 0 (2 * j) 1) 0 (2 * j + 1) (zvl T (x.2.1 - x.1) x.1 0))) 401 (zup ((zcs C 401 F) 401) 0 14 (nI (j + 1)))) := ⟨_, rfl⟩
  rw [← hC2] at n2 g2 m2 te
  obtain ⟨C3, tp, n3, g3, m3⟩ := M196 (d + 3) L p0 p2 r2 r3 s4 Q K _ b s0 (j + 1) (by rw [← hs0]; exact n2) hQ hK

  have fr : zFE j C C3 := zFE_t (zFE_4 j f3) (zFE_X (zFX_t g2 g3 (by omega))) (Nat.le_refl _)
  have hrun : zR (d + 6) 192 19 [.ref 201, .int 1, .int 1, v3] [] (zZ L, zI C, zPd p0 p2 r2 r3 s4) = zR (d + 6) 192 19 [.ref 201, .int 0, .int 1, v3] [] (zZ L, zI C3, zPd p0 p2 r2 r3 s4) := by
    rw [e192_19]
    simp +decide (disch := omega) only [e192_23, e192_30, e192_34, e192_38, e193_0, e193_6, e193_9, e193_15, e193_82, e193_88, e193_142, e193_223, e193_227, e193_150, e193_156, e193_159, h10, h8, t1, t2, t3, tn, te, tp, zpre, ite_self, Nat.reduceAdd, zs1, zs2, zs3, zI_eqb, and_self, not_true_eq_false, if_true, if_false, ite_true, ite_false, not_false_eq_true, zBP, zBZ, zisO, zisA, zlen, decide_true, decide_false, Bool.and_self, Bool.and_true, Bool.true_and, cond_true, cond_false, zBG, zBR, zBU, zBV, zinb_n, zix_n, zlA, zlB, zlM, zlN, zlX, zlI, nI_add, Nat.add_eq_zero_iff, false_and, and_false, and_true, true_and, true_or, or_true, false_or, or_false, zbool_i, zb0, zb1, zshp_0, zcs_eq, zcs_n, zcs_cs, zup_g, zup_n, zg_srock2, zg_stug2, zg_ssun, zg_ssun0, zg_srock, zg_srock0, zg_stug, zg_stug0, zg_sord, zg_sord0, zg_srep, zg_srep0, zg_scla, zg_scla0, zg_scon, zg_scon0, zg_swin, zg_swin0, zg_sleg, zg_sleg0, zg_spro, zg_sstp, zg_swrd, zu_srock2, zu_stug2, zu_ssun, zu_ssun0, zu_srock, zu_srock0, zu_stug, zu_stug0, zu_sord, zu_sord0, zu_srep, zu_srep0, zu_scla, zu_scla0, zu_scon, zu_scon0, zu_swin, zu_swin0, zu_sleg, zu_sleg0, zu_spro, zu_sstp, zu_swrd]
  have hw : zmr (C3 406 0) j ([(1, zvl T (x.2.1 - x.1) x.1 0)] ++ Q.map zow) := ⟨(g3.2.2 _ (by omega)).trans m2.1, (g3.2.2 _ (by omega)).trans m2.2.1, m3⟩
  rcases f2 with ⟨e5, f2⟩ | ⟨e5, f4, f5⟩
  · refine Or.inr ⟨e5, C3, v3, hrun, ⟨zPM_X (zPM_X f2 g2) g3, n3, ?_⟩, fr, hw⟩
    rw [List.length_append] at hjx
    simp only [List.length_cons, List.length_nil]
    omega
  · refine Or.inl ⟨e5, C3, hrun.trans (M19_bad d L p0 p2 r2 r3 s4 C3 ?_ _ _), ?_, ?_, zFE_w fr (by omega), zsf_12 ?_⟩
    · rw [g3.2.1 10 (by decide) (by decide) (by decide) (by decide), g2.2.1 10 (by decide) (by decide) (by decide) (by decide), zcs_eq]; exact f4
    · rw [g3.2.1 10 (by decide) (by decide) (by decide) (by decide), g2.2.1 10 (by decide) (by decide) (by decide) (by decide), zcs_eq]; exact f4
    · rw [g3.2.1 9 (by decide) (by decide) (by decide) (by decide), g2.2.1 9 (by decide) (by decide) (by decide) (by decide), zcs_eq]; exact f5.1
    · rw [g3.2.1 8 (by decide) (by decide) (by decide) (by decide), g2.2.1 8 (by decide) (by decide) (by decide) (by decide), zcs_eq]; exact f5.2.2.2
theorem V_name (L p0 p2 r2 r3 s4 : Nat) (T : Nat → Nat) (n : Nat) (x : zLx) (b s : Nat) (hk : zTk T n x) (hkind : x.2.2 = 1) (hl : x.2.1 - x.1 = 1) (hm : znm (T x.1) = true) : zVt L p0 p2 r2 r3 s4 T n x b s [(2, nI (T x.1))] (zadv T n x) := by
  intro d C Q K j v3 s0 hC hs0 hQ hK
  obtain ⟨hM, hS, hjx⟩ := hC
  have ha := zadv_k T n x hk.2.1
  have hlt := hk.2.2.2.2.1 (by rw [hkind]; decide)
  have h120 := hM.1.2.1
  have hn := hk.2.1
  have h10 := hM.2.2.2.2
  have t1 : ∀ d, zR d 183 0 [.ref 201, .int 33] [] (zZ L, zI C, zPd p0 p2 r2 r3 s4) = _ := fun d => M183_n d L p0 p2 r2 r3 s4 C hM hk (c := 33) (by decide) (zsg0 (by rw [hkind]; decide))
  have t2 : ∀ d, zR d 183 0 [.ref 201, .int 45] [] (zZ L, zI C, zPd p0 p2 r2 r3 s4) = _ := fun d => M183_n d L p0 p2 r2 r3 s4 C hM hk (c := 45) (by decide) (zsg0 (by rw [hkind]; decide))
  have t3 : ∀ d, zR d 183 0 [.ref 201, .int 40] [] (zZ L, zI C, zPd p0 p2 r2 r3 s4) = _ := fun d => M183_n d L p0 p2 r2 r3 s4 C hM hk (c := 40) (by decide) (zsg0 (by rw [hkind]; decide))
  have h8 : C 401 0 8 = 1 := by have := hM.2.1; rw [hkind] at this; exact this
  obtain ⟨tb, hb⟩ := hM.1.2.2 x.1 (by omega)
  have tn := M195 (d + 4) (zZ L) (zI C) (zPd p0 p2 r2 r3 s4) hb
  rw [if_pos hm] at tn
  have h5 := hM.2.2.1
  have h6 := hM.2.2.2.1
  have es : nI x.2.1 - nI x.1 = 1 := by rw [nI_sub (by omega), hl]; rfl
  obtain ⟨n1, g1, m1⟩ := zSK_em hS (by omega) 2 (nI (T x.1))
  have te := M194 (d + 4) L p0 p2 r2 r3 s4 C (j := j) (by omega) hS.2.2.2.2.1 2 (nI (T x.1))
  obtain ⟨C1, hC1⟩ : ∃ C1, C1 = (zcs (zcs C 406 (zup (zup (C 406) 0 (2 * j) 2) 0 (2 * j + 1) (nI (T x.1)))) 401 (zup (C 401) 0 14 (nI (j + 1)))) := ⟨_, rfl⟩
  rw [← hC1] at n1 g1 m1 te
  obtain ⟨F, tm, f2, f3⟩ := M180 (d + 2) L p0 p2 r2 r3 s4 C1 (zPM_X hM g1) hk.2.1 (by rw [hkind]; decide)
  have n2 := zSK_4 n1 f3
  obtain ⟨C3, tp, n3, g3, m3⟩ := M196 (d + 3) L p0 p2 r2 r3 s4 Q K _ b s0 (j + 1) (by rw [← hs0]; exact n2) hQ hK
  have fr : zFE j C C3 := zFE_t (zFE_X g1) (zFE_t (zFE_4 j f3) (zFE_X g3) (by omega)) (Nat.le_refl _)
  have hrun : zR (d + 6) 192 19 [.ref 201, .int 1, .int 1, v3] [] (zZ L, zI C, zPd p0 p2 r2 r3 s4) = zR (d + 6) 192 19 [.ref 201, .int 0, .int 1, v3] [] (zZ L, zI C3, zPd p0 p2 r2 r3 s4) := by
    rw [e192_19]
    simp +decide (disch := omega) only [e192_23, e192_30, e192_34, e192_38, e193_0, e193_6, e193_9, e193_15, e193_82, e193_88, e193_142, e193_223, e193_227, e193_162, e193_170, e193_183, e193_195, e193_198, e193_212, e193_216, h10, h8, h5, h6, es, tb, t1, t2, t3, tn, te, tm, tp, zpre, ite_self, Nat.reduceAdd, zs1, zs2, zs3, zI_eqb, and_self, not_true_eq_false, if_true, if_false, ite_true, ite_false, not_false_eq_true, zBP, zBZ, zisO, zisA, zlen, decide_true, decide_false, Bool.and_self, Bool.and_true, Bool.true_and, cond_true, cond_false, zBG, zBR, zBU, zBV, zinb_n, zix_n, zlA, zlB, zlM, zlN, zlX, zlI, nI_add, Nat.add_eq_zero_iff, false_and, and_false, and_true, true_and, true_or, or_true, false_or, or_false, zbool_i, zb0, zb1, zshp_0, zcs_eq, zcs_n, zcs_cs, zup_g, zup_n, zg_srock2, zg_stug2, zg_ssun, zg_ssun0, zg_srock, zg_srock0, zg_stug, zg_stug0, zg_sord, zg_sord0, zg_srep, zg_srep0, zg_scla, zg_scla0, zg_scon, zg_scon0, zg_swin, zg_swin0, zg_sleg, zg_sleg0, zg_spro, zg_sstp, zg_swrd, zu_srock2, zu_stug2, zu_ssun, zu_ssun0, zu_srock, zu_srock0, zu_stug, zu_stug0, zu_sord, zu_sord0, zu_srep, zu_srep0, zu_scla, zu_scla0, zu_scon, zu_scon0, zu_swin, zu_swin0, zu_sleg, zu_sleg0, zu_spro, zu_sstp, zu_swrd]
  have hw : zmr (C3 406 0) j ([(2, nI (T x.1))] ++ Q.map zow) := ⟨(g3.2.2 _ (by omega)).trans (by rw [zcs_n _ _ (by decide)]; exact m1.1), (g3.2.2 _ (by omega)).trans (by rw [zcs_n _ _ (by decide)]; exact m1.2.1), m3⟩
  rcases f2 with ⟨e5, f2⟩ | ⟨e5, f4, f5⟩
  · refine Or.inr ⟨e5, C3, v3, hrun, ⟨zPM_X f2 g3, n3, ?_⟩, fr, hw⟩
    rw [List.length_append] at hjx
    simp only [List.length_cons, List.length_nil]
    omega
  · refine Or.inl ⟨e5, C3, hrun.trans (M19_bad d L p0 p2 r2 r3 s4 C3 ?_ _ _), ?_, ?_, zFE_w fr (by omega), zsf_12 ?_⟩
    · rw [g3.2.1 10 (by decide) (by decide) (by decide) (by decide), zcs_eq]; exact f4
    · rw [g3.2.1 10 (by decide) (by decide) (by decide) (by decide), zcs_eq]; exact f4
    · rw [g3.2.1 9 (by decide) (by decide) (by decide) (by decide), zcs_eq]; exact f5.1
    · rw [g3.2.1 8 (by decide) (by decide) (by decide) (by decide), zcs_eq]; exact f5.2.2.2

