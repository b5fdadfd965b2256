/-! THE TOUR: the model, printed by wip/gen/pub23.py -/
def zwo (K : zGp) (rs : Nat → Nat) : Nat → Int32 × Int32
  | 0 => (0, (1 : Int32) <<< (nI (rs 0) &&& 31))
  | k + 1 => ((zwo K rs k).1 + (if (((zwo K rs k).2 >>> (nI (rs (k + 1)) &&& 31)) &&& 1) = 0 then K (rs (k + 1)) 9 else 0), (zwo K rs k).2 ||| ((1 : Int32) <<< (nI (rs (k + 1)) &&& 31)))
theorem zwo_c {K : zGp} {rs rs' : Nat → Nat} : ∀ k, (∀ j, j ≤ k → rs' j = rs j) → zwo K rs' k = zwo K rs k := by
  intro k
  induction k with
  | zero => intro h; unfold zwo; rw [h 0 (by omega)]
  | succ k ih =>
    intro h
    unfold zwo
    rw [ih (fun j hj => h j (by omega)), h (k + 1) (by omega)]
theorem nI_pm (n : Nat) : nI (n + 1) + (-1) = nI n := by
  have h : (nI (n + 1) : Int32) + (-1) = nI (n + 1) - 1 := by rw [Int32.sub_eq_add_neg]
  rw [h]
  exact nI_pred n
def zDm (C : zCt) (wd : Nat → Nat → Nat) (K : zGp) (rt nw nr : Nat) : Prop := C 40 0 11 = nI nw ∧ C 40 0 3 = nI rt ∧ (∀ k, k < nw → ∀ f, f < 6 → C 48 k f = nI (wd k f)) ∧ (∀ r, r < nr → C 42 r 0 = K r 0 ∧ C 42 r 9 = K r 9)
def zMk (C : zCt) (many : Nat) (rs : Nat → Nat) (pa : zGp) (dy fu : Nat) (s : zSt) : Prop :=
  (C 401 0 33 = nI s.2.2.2.2.1 ∧ C 401 0 34 = s.2.2.1 ∧ C 401 0 35 = nI s.2.2.2.1) ∧ (∀ j, j ≤ many → C 412 0 j = nI (rs j)) ∧ C 413 0 many = nI dy ∧ C 414 0 many = nI fu ∧
  (∀ j, j < many → C 415 0 j = pa j 0 ∧ C 416 0 j = pa j 1 ∧ C 413 0 (j + 1) = pa j 2 ∧ C 414 0 (j + 1) = pa j 3) ∧ (∀ i, i < s.2.2.2.2.1 → ∀ f, f < 4 → C 418 0 (4 * i + f) = s.2.2.2.2.2 i f) ∧ s.2.2.2.2.1 ≤ 6 ∧ s.2.2.2.1 ≤ 2000 ∧ s.1 ≤ 20000
def zFm (C C' : zCt) (many : Nat) : Prop := (∀ g, ¬ (g = 401 ∨ 412 ≤ g ∧ g ≤ 418) → C' g = C g) ∧ (∀ f, f < 33 ∨ 35 < f → C' 401 0 f = C 401 0 f) ∧ (∀ j, j ≤ many → C' 412 0 j = C 412 0 j ∧ C' 413 0 j = C 413 0 j ∧ C' 414 0 j = C 414 0 j) ∧ ∀ j, j < many → C' 415 0 j = C 415 0 j ∧ C' 416 0 j = C 416 0 j ∧ C' 417 0 j = C 417 0 j
theorem zFm_t {A B C : zCt} {m : Nat} (h1 : zFm A B m) (h2 : zFm B C m) : zFm A C m := by
  obtain ⟨a1, a2, a3, a4⟩ := h1
  obtain ⟨b1, b2, b3, b4⟩ := h2
  refine ⟨fun g e => by rw [b1 g e, a1 g e], fun f e => by rw [b2 f e, a2 f e], fun j hj => ?_, fun j hj => ?_⟩
  · obtain ⟨x1, x2, x3⟩ := a3 j hj
    obtain ⟨y1, y2, y3⟩ := b3 j hj
    exact ⟨y1.trans x1, y2.trans x2, y3.trans x3⟩
  · obtain ⟨x1, x2, x3⟩ := a4 j hj
    obtain ⟨y1, y2, y3⟩ := b4 j hj
    exact ⟨y1.trans x1, y2.trans x2, y3.trans x3⟩
theorem zFm_w {A B : zCt} {m : Nat} (h : zFm A B (m + 1)) : zFm A B m := ⟨h.1, h.2.1, fun j hj => h.2.2.1 j (by omega), fun j hj => h.2.2.2 j (by omega)⟩
theorem zDm_c {C C' : zCt} {wd : Nat → Nat → Nat} {K : zGp} {rt nw nr m : Nat} (h : zDm C wd K rt nw nr) (hf : zFm C C' m) : zDm C' wd K rt nw nr := by
  unfold zDm
  rw [hf.1 40 (by decide), hf.1 48 (by decide), hf.1 42 (by decide)]
  exact h
theorem T244 (d L p0 p2 r2 r3 s4 many nr : Nat) (C : zCt) (K : zGp) (rs : Nat → Nat) (hm : many ≤ 6) (hr8 : nr ≤ 8) (hrs : ∀ j, j ≤ many → rs j < nr ∧ C 412 0 j = nI (rs j)) (hK : ∀ r, r < nr → C 42 r 9 = K r 9) : zR d 244 0 [.ref 201, .int (nI many), zmk, zmk, zmk] [] (zZ L, zI C, zPd p0 p2 r2 r3 s4) = some (some (.int (zwo K rs many).1), (zZ L, zI C, zPd p0 p2 r2 r3 s4)) := by
  have hl : ∀ (m j : Nat), j + m = many → zR d 244 14 [.ref 201, .int (nI many), .int (zwo K rs j).2, .int (zwo K rs j).1, .int (nI (j + 1))] [] (zZ L, zI C, zPd p0 p2 r2 r3 s4) = some (some (.int (zwo K rs many).1), (zZ L, zI C, zPd p0 p2 r2 r3 s4)) := by
    intro m
    induction m with
    | zero =>
      intro j hj
      have hj : j = many := by omega
      subst hj
      rw [e244_14, if_pos (nI_lt (by omega) (by omega)), e244_80]
    | succ m ih =>
      intro j hj
      have hlt : ¬ nI many < nI (j + 1) := nI_nlt (by omega) (by omega)
      obtain ⟨h1, h2⟩ := hrs (j + 1) (by omega)
      have h8 : rs (j + 1) < 8 := by omega
      have h9 := hK _ h1
      have hj7 : j + 1 < 7 := by omega
      rw [e244_14, if_neg hlt, ← ih (j + 1) (by omega)]
      by_cases hb : (((zwo K rs j).2 >>> (nI (rs (j + 1)) &&& 31)) &&& 1) = 0
      · have e1 : zwo K rs (j + 1) = ((zwo K rs j).1 + K (rs (j + 1)) 9, (zwo K rs j).2 ||| ((1 : Int32) <<< (nI (rs (j + 1)) &&& 31))) := by
          show ((zwo K rs j).1 + (if _ then _ else _), _) = _
          rw [if_pos hb]
        rw [e1]
        simp +decide (disch := omega) only [e244_20, e244_35, e244_59, e244_60, h2, h9, hb, zpre, ite_self, Nat.reduceAdd, zs1, zs2, zs3, zI_eqb, and_self, not_true_eq_false, if_true, if_false, ite_true, ite_false, not_false_eq_true, zBP, zBZ, zisO, zisA, zlen, decide_true, decide_false, Bool.and_self, Bool.and_true, Bool.true_and, cond_true, cond_false, zBG, zBR, zBU, zBV, zinb_n, zix_n, zlA, zlB, zlM, zlN, zlX, zlI, nI_add, Nat.add_eq_zero_iff, false_and, and_false, and_true, true_and, true_or, or_true, false_or, or_false, zbool_i, zb0, zb1, zshp_0, zcs_eq, zcs_n, zcs_cs, zup_g, zup_n, zg_srock2, zg_stug2, zg_ssun, zg_ssun0, zg_srock, zg_srock0, zg_stug, zg_stug0, zg_sord, zg_sord0, zg_srep, zg_srep0, zg_scla, zg_scla0, zg_scon, zg_scon0, zg_swin, zg_swin0, zg_sleg, zg_sleg0, zg_spro, zg_sstp, zg_swrd, zu_srock2, zu_stug2, zu_ssun, zu_ssun0, zu_srock, zu_srock0, zu_stug, zu_stug0, zu_sord, zu_sord0, zu_srep, zu_srep0, zu_scla, zu_scla0, zu_scon, zu_scon0, zu_swin, zu_swin0, zu_sleg, zu_sleg0, zu_spro, zu_sstp, zu_swrd]
      · have e1 : zwo K rs (j + 1) = ((zwo K rs j).1 + 0, (zwo K rs j).2 ||| ((1 : Int32) <<< (nI (rs (j + 1)) &&& 31))) := by
          show ((zwo K rs j).1 + (if _ then _ else _), _) = _
          rw [if_neg hb]
        rw [e1]
        simp +decide (disch := omega) only [e244_20, e244_35, e244_59, e244_60, h2, h9, hb, zpre, ite_self, Nat.reduceAdd, zs1, zs2, zs3, zI_eqb, and_self, not_true_eq_false, if_true, if_false, ite_true, ite_false, not_false_eq_true, zBP, zBZ, zisO, zisA, zlen, decide_true, decide_false, Bool.and_self, Bool.and_true, Bool.true_and, cond_true, cond_false, zBG, zBR, zBU, zBV, zinb_n, zix_n, zlA, zlB, zlM, zlN, zlX, zlI, nI_add, Nat.add_eq_zero_iff, false_and, and_false, and_true, true_and, true_or, or_true, false_or, or_false, zbool_i, zb0, zb1, zshp_0, zcs_eq, zcs_n, zcs_cs, zup_g, zup_n, zg_srock2, zg_stug2, zg_ssun, zg_ssun0, zg_srock, zg_srock0, zg_stug, zg_stug0, zg_sord, zg_sord0, zg_srep, zg_srep0, zg_scla, zg_scla0, zg_scon, zg_scon0, zg_swin, zg_swin0, zg_sleg, zg_sleg0, zg_spro, zg_sstp, zg_swrd, zu_srock2, zu_stug2, zu_ssun, zu_ssun0, zu_srock, zu_srock0, zu_stug, zu_stug0, zu_sord, zu_sord0, zu_srep, zu_srep0, zu_scla, zu_scla0, zu_scon, zu_scon0, zu_swin, zu_swin0, zu_sleg, zu_sleg0, zu_spro, zu_sstp, zu_swrd]
  have h0 := hl many 0 (by omega)
  have hr0 := (hrs 0 (by omega)).2
  rw [show nI (0 + 1) = 1 from rfl, show (zwo K rs 0).2 = (1 : Int32) <<< (nI (rs 0) &&& 31) from rfl, show (zwo K rs 0).1 = 0 from rfl] at h0
  rw [e244_0]
  simp +decide (disch := omega) only [hr0, h0, zpre, ite_self, Nat.reduceAdd, zs1, zs2, zs3, zI_eqb, and_self, not_true_eq_false, if_true, if_false, ite_true, ite_false, not_false_eq_true, zBP, zBZ, zisO, zisA, zlen, decide_true, decide_false, Bool.and_self, Bool.and_true, Bool.true_and, cond_true, cond_false, zBG, zBR, zBU, zBV, zinb_n, zix_n, zlA, zlB, zlM, zlN, zlX, zlI, nI_add, Nat.add_eq_zero_iff, false_and, and_false, and_true, true_and, true_or, or_true, false_or, or_false, zbool_i, zb0, zb1, zshp_0, zcs_eq, zcs_n, zcs_cs, zup_g, zup_n, zg_srock2, zg_stug2, zg_ssun, zg_ssun0, zg_srock, zg_srock0, zg_stug, zg_stug0, zg_sord, zg_sord0, zg_srep, zg_srep0, zg_scla, zg_scla0, zg_scon, zg_scon0, zg_swin, zg_swin0, zg_sleg, zg_sleg0, zg_spro, zg_sstp, zg_swrd, zu_srock2, zu_stug2, zu_ssun, zu_ssun0, zu_srock, zu_srock0, zu_stug, zu_stug0, zu_sord, zu_sord0, zu_srep, zu_srep0, zu_scla, zu_scla0, zu_scon, zu_scon0, zu_swin, zu_swin0, zu_sleg, zu_sleg0, zu_spro, zu_sstp, zu_swrd]
/-- legs k .. m-1 of the row of best legs -/
def zbl (a : zGp) (pa : zGp) (k m : Nat) : zGp := fun i f => if i = 0 ∧ 4 * k ≤ f ∧ f < 4 * m then pa (f / 4) (f % 4) else a i f
theorem zbl_st (a : zGp) (pa : zGp) (k m : Nat) (h : k < m) : zbl (zup (zup (zup (zup a 0 (4 * k) (pa k 0)) 0 (4 * k + 1) (pa k 1)) 0 (4 * k + 2) (pa k 2)) 0 (4 * k + 3) (pa k 3)) pa (k + 1) m = zbl a pa k m := by
  funext i f
  unfold zbl
  by_cases h1 : i = 0 ∧ 4 * (k + 1) ≤ f ∧ f < 4 * m
  · rw [if_pos h1, if_pos ⟨h1.1, by omega, by omega⟩]
  · rw [if_neg h1]
    by_cases h2 : i = 0 ∧ 4 * k ≤ f ∧ f < 4 * m
    · rw [if_pos h2]
      obtain ⟨rfl, h3, h4⟩ := h2
      rcases (show f = 4 * k ∨ f = 4 * k + 1 ∨ f = 4 * k + 2 ∨ f = 4 * k + 3 by omega) with rfl | rfl | rfl | rfl
      · rw [show 4 * k / 4 = k by omega, show 4 * k % 4 = 0 by omega]
        simp (disch := omega) only [zup_g, zup_n]
      · rw [show (4 * k + 1) / 4 = k by omega, show (4 * k + 1) % 4 = 1 by omega]
        simp (disch := omega) only [zup_g, zup_n]
      · rw [show (4 * k + 2) / 4 = k by omega, show (4 * k + 2) % 4 = 2 by omega]
        simp (disch := omega) only [zup_g, zup_n]
      · rw [show (4 * k + 3) / 4 = k by omega, show (4 * k + 3) % 4 = 3 by omega]
        simp (disch := omega) only [zup_g, zup_n]
    · rw [if_neg h2]
      simp (disch := omega) only [zup_n]
theorem zbl_0 (a : zGp) (pa : zGp) (m : Nat) : zbl a pa m m = a := by
  funext i f
  exact if_neg (fun e => by omega)
theorem zbl_in {a pa : zGp} {m i f : Nat} (hi : i < m) (hf : f < 4) : zbl a pa 0 m 0 (4 * i + f) = pa i f := by
  unfold zbl
  rw [if_pos ⟨rfl, by omega, by omega⟩, show (4 * i + f) / 4 = i by omega, show (4 * i + f) % 4 = f by omega]
theorem T243_98 (d L p0 p2 r2 r3 s4 many : Nat) (pa : zGp) (x2 x3 : Int32) (hm : many ≤ 6) : ∀ (m k : Nat) (C : zCt), (∀ j, j < many → C 415 0 j = pa j 0 ∧ C 416 0 j = pa j 1 ∧ C 413 0 (j + 1) = pa j 2 ∧ C 414 0 (j + 1) = pa j 3) → k + m = many → zR d 243 98 [.ref 201, .int (nI many), .int x2, .int x3, .int (nI k)] [] (zZ L, zI C, zPd p0 p2 r2 r3 s4) = some (none, (zZ L, zI (zcs C 418 (zbl (C 418) pa k many)), zPd p0 p2 r2 r3 s4)) := by
  intro m
  induction m with
  | zero =>
    intro k C hP hk
    have hk : k = many := by omega
    subst hk
    rw [e243_98, if_pos (Int32.le_refl _), e243_184, zbl_0, zcs_self]
  | succ m ih =>
    intro k C hP hk
    have hge : ¬ nI many ≤ nI k := nI_ge (by omega) (by omega)
    obtain ⟨q1, q2, q3, q4⟩ := hP k (by omega)
    rw [e243_98, if_neg hge]
    simp +decide (disch := omega) only [e243_104, q1, q2, q3, q4, zpre, ite_self, Nat.reduceAdd, zs1, zs2, zs3, zI_eqb, and_self, not_true_eq_false, if_true, if_false, ite_true, ite_false, not_false_eq_true, zBP, zBZ, zisO, zisA, zlen, decide_true, decide_false, Bool.and_self, Bool.and_true, Bool.true_and, cond_true, cond_false, zBG, zBR, zBU, zBV, zinb_n, zix_n, zlA, zlB, zlM, zlN, zlX, zlI, nI_add, Nat.add_eq_zero_iff, false_and, and_false, and_true, true_and, true_or, or_true, false_or, or_false, zbool_i, zb0, zb1, zshp_0, zcs_eq, zcs_n, zcs_cs, zup_g, zup_n, zg_srock2, zg_stug2, zg_ssun, zg_ssun0, zg_srock, zg_srock0, zg_stug, zg_stug0, zg_sord, zg_sord0, zg_srep, zg_srep0, zg_scla, zg_scla0, zg_scon, zg_scon0, zg_swin, zg_swin0, zg_sleg, zg_sleg0, zg_spro, zg_sstp, zg_swrd, zu_srock2, zu_stug2, zu_ssun, zu_ssun0, zu_srock, zu_srock0, zu_stug, zu_stug0, zu_sord, zu_sord0, zu_srep, zu_srep0, zu_scla, zu_scla0, zu_scon, zu_scon0, zu_swin, zu_swin0, zu_sleg, zu_sleg0, zu_spro, zu_sstp, zu_swrd]
    rw [ih (k + 1) _ (by simp (disch := omega) only [zcs_n]; exact hP) (by omega)]
    simp (disch := omega) only [zcs_eq, zcs_cs]
    rw [zbl_st _ _ _ _ (by omega)]
theorem T243_75 (d L p0 p2 r2 r3 s4 many e : Nat) (C : zCt) (pa : zGp) (w x3 : Int32) (v4 : Value) (hm : many ≤ 6) (hP : ∀ j, j < many → C 415 0 j = pa j 0 ∧ C 416 0 j = pa j 1 ∧ C 413 0 (j + 1) = pa j 2 ∧ C 414 0 (j + 1) = pa j 3) (he : C 413 0 many = nI e) : zR d 243 75 [.ref 201, .int (nI many), .int w, .int x3, v4] [] (zZ L, zI C, zPd p0 p2 r2 r3 s4) = some (none, (zZ L, zI (zcs (zcs C 401 (zup (zup (zup (C 401) 0 33 (nI many)) 0 34 w) 0 35 (nI e))) 418 (zbl (C 418) pa 0 many)), zPd p0 p2 r2 r3 s4)) := by
  have h := T243_98 d L p0 p2 r2 r3 s4 many pa w x3 hm many 0 (zcs C 401 (zup (zup (zup (C 401) 0 33 (nI many)) 0 34 w) 0 35 (nI e))) (by simp (disch := omega) only [zcs_n]; exact hP) (by omega)
  rw [zn0, zcs_n _ _ (by decide : (418 : Nat) ≠ 401)] at h
  rw [e243_75]
  simp +decide (disch := omega) only [he, h, zpre, ite_self, Nat.reduceAdd, zs1, zs2, zs3, zI_eqb, and_self, not_true_eq_false, if_true, if_false, ite_true, ite_false, not_false_eq_true, zBP, zBZ, zisO, zisA, zlen, decide_true, decide_false, Bool.and_self, Bool.and_true, Bool.true_and, cond_true, cond_false, zBG, zBR, zBU, zBV, zinb_n, zix_n, zlA, zlB, zlM, zlN, zlX, zlI, nI_add, Nat.add_eq_zero_iff, false_and, and_false, and_true, true_and, true_or, or_true, false_or, or_false, zbool_i, zb0, zb1, zshp_0, zcs_eq, zcs_n, zcs_cs, zup_g, zup_n, zg_srock2, zg_stug2, zg_ssun, zg_ssun0, zg_srock, zg_srock0, zg_stug, zg_stug0, zg_sord, zg_sord0, zg_srep, zg_srep0, zg_scla, zg_scla0, zg_scon, zg_scon0, zg_swin, zg_swin0, zg_sleg, zg_sleg0, zg_spro, zg_sstp, zg_swrd, zu_srock2, zu_stug2, zu_ssun, zu_ssun0, zu_srock, zu_srock0, zu_stug, zu_stug0, zu_sord, zu_sord0, zu_srep, zu_srep0, zu_scla, zu_scla0, zu_scon, zu_scon0, zu_swin, zu_swin0, zu_sleg, zu_sleg0, zu_spro, zu_sstp, zu_swrd]
theorem T243 (d L p0 p2 r2 r3 s4 many nr e : Nat) (C : zCt) (K : zGp) (rs : Nat → Nat) (pa : zGp) (s : zSt) (hm : many ≤ 6) (hr8 : nr ≤ 8) (he2 : e < 2147483648) (hrs : ∀ j, j ≤ many → rs j < nr ∧ C 412 0 j = nI (rs j)) (hK : ∀ r, r < nr → C 42 r 9 = K r 9) (hP : ∀ j, j < many → C 415 0 j = pa j 0 ∧ C 416 0 j = pa j 1 ∧ C 413 0 (j + 1) = pa j 2 ∧ C 414 0 (j + 1) = pa j 3) (he : C 413 0 many = nI e) (hb : C 401 0 33 = nI s.2.2.2.2.1 ∧ C 401 0 34 = s.2.2.1 ∧ C 401 0 35 = nI s.2.2.2.1) (hb6 : s.2.2.2.2.1 ≤ 6) (hbe : s.2.2.2.1 ≤ 2000) : zR (d + 1) 243 0 [.ref 201, .int (nI many), zmk, zmk, zmk] [] (zZ L, zI C, zPd p0 p2 r2 r3 s4) = some (none, (zZ L, zI (if zbet (zwo K rs many).1 e many s = true then zcs (zcs C 401 (zup (zup (zup (C 401) 0 33 (nI many)) 0 34 (zwo K rs many).1) 0 35 (nI e))) 418 (zbl (C 418) pa 0 many) else C), zPd p0 p2 r2 r3 s4)) := by
  have hT := T244 d L p0 p2 r2 r3 s4 many nr C K rs hm hr8 hrs hK
  obtain ⟨w, hw⟩ : ∃ w, w = (zwo K rs many).1 := ⟨_, rfl⟩
  rw [← hw] at hT ⊢
  obtain ⟨k1, k2, k3⟩ := hb
  have h75 := fun x3 v4 => T243_75 (d + 1) L p0 p2 r2 r3 s4 many e C pa w x3 v4 hm hP he
  unfold zbet
  by_cases q1 : w = s.2.2.1
  · have q1a : ¬ s.2.2.1 < w := by rw [q1]; exact fun h => Int32.lt_irrefl h
    have q1e := eq_true q1
    by_cases q2 : e = s.2.2.2.1
    · have q2a : nI e = nI s.2.2.2.1 := by rw [q2]
      have q2b : ¬ nI e < nI s.2.2.2.1 := by rw [q2]; exact fun h => Int32.lt_irrefl h
      have q2e := eq_true q2a
      by_cases q3 : many < s.2.2.2.2.1
      · have q3' : ¬ nI s.2.2.2.2.1 ≤ nI many := nI_ge q3 (by omega)
        rw [if_pos q1, if_pos q2, decide_eq_true q3, if_pos rfl]
        simp +decide (disch := omega) only [e243_0, e243_5, e243_14, e243_22, e243_30, e243_43, e243_56, e243_64, e243_68, e243_69, e243_74, hT, k1, k2, k3, he, nI_m, q1e, q1a, q2e, q2b, q3', h75, zpre, ite_self, Nat.reduceAdd, zs1, zs2, zs3, zI_eqb, and_self, not_true_eq_false, if_true, if_false, ite_true, ite_false, not_false_eq_true, zBP, zBZ, zisO, zisA, zlen, decide_true, decide_false, Bool.and_self, Bool.and_true, Bool.true_and, cond_true, cond_false, zBG, zBR, zBU, zBV, zinb_n, zix_n, zlA, zlB, zlM, zlN, zlX, zlI, nI_add, Nat.add_eq_zero_iff, false_and, and_false, and_true, true_and, true_or, or_true, false_or, or_false, zbool_i, zb0, zb1, zshp_0, zcs_eq, zcs_n, zcs_cs, zup_g, zup_n, zg_srock2, zg_stug2, zg_ssun, zg_ssun0, zg_srock, zg_srock0, zg_stug, zg_stug0, zg_sord, zg_sord0, zg_srep, zg_srep0, zg_scla, zg_scla0, zg_scon, zg_scon0, zg_swin, zg_swin0, zg_sleg, zg_sleg0, zg_spro, zg_sstp, zg_swrd, zu_srock2, zu_stug2, zu_ssun, zu_ssun0, zu_srock, zu_srock0, zu_stug, zu_stug0, zu_sord, zu_sord0, zu_srep, zu_srep0, zu_scla, zu_scla0, zu_scon, zu_scon0, zu_swin, zu_swin0, zu_sleg, zu_sleg0, zu_spro, zu_sstp, zu_swrd]
      · have q3' : nI s.2.2.2.2.1 ≤ nI many := nI_le (by omega) (by omega)
        rw [if_pos q1, if_pos q2, decide_eq_false q3, if_neg Bool.false_ne_true]
        simp +decide (disch := omega) only [e243_0, e243_5, e243_14, e243_22, e243_30, e243_43, e243_56, e243_64, e243_68, e243_69, e243_74, hT, k1, k2, k3, he, nI_m, q1e, q1a, q2e, q2b, q3', h75, zpre, ite_self, Nat.reduceAdd, zs1, zs2, zs3, zI_eqb, and_self, not_true_eq_false, if_true, if_false, ite_true, ite_false, not_false_eq_true, zBP, zBZ, zisO, zisA, zlen, decide_true, decide_false, Bool.and_self, Bool.and_true, Bool.true_and, cond_true, cond_false, zBG, zBR, zBU, zBV, zinb_n, zix_n, zlA, zlB, zlM, zlN, zlX, zlI, nI_add, Nat.add_eq_zero_iff, false_and, and_false, and_true, true_and, true_or, or_true, false_or, or_false, zbool_i, zb0, zb1, zshp_0, zcs_eq, zcs_n, zcs_cs, zup_g, zup_n, zg_srock2, zg_stug2, zg_ssun, zg_ssun0, zg_srock, zg_srock0, zg_stug, zg_stug0, zg_sord, zg_sord0, zg_srep, zg_srep0, zg_scla, zg_scla0, zg_scon, zg_scon0, zg_swin, zg_swin0, zg_sleg, zg_sleg0, zg_spro, zg_sstp, zg_swrd, zu_srock2, zu_stug2, zu_ssun, zu_ssun0, zu_srock, zu_srock0, zu_stug, zu_stug0, zu_sord, zu_sord0, zu_srep, zu_srep0, zu_scla, zu_scla0, zu_scon, zu_scon0, zu_swin, zu_swin0, zu_sleg, zu_sleg0, zu_spro, zu_sstp, zu_swrd]
    · have q2a : ¬ nI e = nI s.2.2.2.1 := fun h => q2 ((nI_eq (by omega) (by omega)).mp h)
      by_cases q3 : e < s.2.2.2.1
      · have q2b : nI e < nI s.2.2.2.1 := nI_lt q3 (by omega)
        rw [if_pos q1, if_neg q2, decide_eq_true q3, if_pos rfl]
        simp +decide (disch := omega) only [e243_0, e243_5, e243_14, e243_22, e243_30, e243_43, e243_56, e243_64, e243_68, e243_69, e243_74, hT, k1, k2, k3, he, nI_m, q1e, q1a, q2a, q2b, h75, zpre, ite_self, Nat.reduceAdd, zs1, zs2, zs3, zI_eqb, and_self, not_true_eq_false, if_true, if_false, ite_true, ite_false, not_false_eq_true, zBP, zBZ, zisO, zisA, zlen, decide_true, decide_false, Bool.and_self, Bool.and_true, Bool.true_and, cond_true, cond_false, zBG, zBR, zBU, zBV, zinb_n, zix_n, zlA, zlB, zlM, zlN, zlX, zlI, nI_add, Nat.add_eq_zero_iff, false_and, and_false, and_true, true_and, true_or, or_true, false_or, or_false, zbool_i, zb0, zb1, zshp_0, zcs_eq, zcs_n, zcs_cs, zup_g, zup_n, zg_srock2, zg_stug2, zg_ssun, zg_ssun0, zg_srock, zg_srock0, zg_stug, zg_stug0, zg_sord, zg_sord0, zg_srep, zg_srep0, zg_scla, zg_scla0, zg_scon, zg_scon0, zg_swin, zg_swin0, zg_sleg, zg_sleg0, zg_spro, zg_sstp, zg_swrd, zu_srock2, zu_stug2, zu_ssun, zu_ssun0, zu_srock, zu_srock0, zu_stug, zu_stug0, zu_sord, zu_sord0, zu_srep, zu_srep0, zu_scla, zu_scla0, zu_scon, zu_scon0, zu_swin, zu_swin0, zu_sleg, zu_sleg0, zu_spro, zu_sstp, zu_swrd]
      · have q2b : ¬ nI e < nI s.2.2.2.1 := nI_nlt (by omega) (by omega)
        rw [if_pos q1, if_neg q2, decide_eq_false q3, if_neg Bool.false_ne_true]
        simp +decide (disch := omega) only [e243_0, e243_5, e243_14, e243_22, e243_30, e243_43, e243_56, e243_64, e243_68, e243_69, e243_74, hT, k1, k2, k3, he, nI_m, q1e, q1a, q2a, q2b, h75, zpre, ite_self, Nat.reduceAdd, zs1, zs2, zs3, zI_eqb, and_self, not_true_eq_false, if_true, if_false, ite_true, ite_false, not_false_eq_true, zBP, zBZ, zisO, zisA, zlen, decide_true, decide_false, Bool.and_self, Bool.and_true, Bool.true_and, cond_true, cond_false, zBG, zBR, zBU, zBV, zinb_n, zix_n, zlA, zlB, zlM, zlN, zlX, zlI, nI_add, Nat.add_eq_zero_iff, false_and, and_false, and_true, true_and, true_or, or_true, false_or, or_false, zbool_i, zb0, zb1, zshp_0, zcs_eq, zcs_n, zcs_cs, zup_g, zup_n, zg_srock2, zg_stug2, zg_ssun, zg_ssun0, zg_srock, zg_srock0, zg_stug, zg_stug0, zg_sord, zg_sord0, zg_srep, zg_srep0, zg_scla, zg_scla0, zg_scon, zg_scon0, zg_swin, zg_swin0, zg_sleg, zg_sleg0, zg_spro, zg_sstp, zg_swrd, zu_srock2, zu_stug2, zu_ssun, zu_ssun0, zu_srock, zu_srock0, zu_stug, zu_stug0, zu_sord, zu_sord0, zu_srep, zu_srep0, zu_scla, zu_scla0, zu_scon, zu_scon0, zu_swin, zu_swin0, zu_sleg, zu_sleg0, zu_spro, zu_sstp, zu_swrd]
  · by_cases q3 : s.2.2.1 < w
    · rw [if_neg q1, decide_eq_true q3, if_pos rfl]
      simp +decide (disch := omega) only [e243_0, e243_5, e243_14, e243_22, e243_30, e243_43, e243_56, e243_64, e243_68, e243_69, e243_74, hT, k1, k2, k3, he, nI_m, q1, q3, h75, zpre, ite_self, Nat.reduceAdd, zs1, zs2, zs3, zI_eqb, and_self, not_true_eq_false, if_true, if_false, ite_true, ite_false, not_false_eq_true, zBP, zBZ, zisO, zisA, zlen, decide_true, decide_false, Bool.and_self, Bool.and_true, Bool.true_and, cond_true, cond_false, zBG, zBR, zBU, zBV, zinb_n, zix_n, zlA, zlB, zlM, zlN, zlX, zlI, nI_add, Nat.add_eq_zero_iff, false_and, and_false, and_true, true_and, true_or, or_true, false_or, or_false, zbool_i, zb0, zb1, zshp_0, zcs_eq, zcs_n, zcs_cs, zup_g, zup_n, zg_srock2, zg_stug2, zg_ssun, zg_ssun0, zg_srock, zg_srock0, zg_stug, zg_stug0, zg_sord, zg_sord0, zg_srep, zg_srep0, zg_scla, zg_scla0, zg_scon, zg_scon0, zg_swin, zg_swin0, zg_sleg, zg_sleg0, zg_spro, zg_sstp, zg_swrd, zu_srock2, zu_stug2, zu_ssun, zu_ssun0, zu_srock, zu_srock0, zu_stug, zu_stug0, zu_sord, zu_sord0, zu_srep, zu_srep0, zu_scla, zu_scla0, zu_scon, zu_scon0, zu_swin, zu_swin0, zu_sleg, zu_sleg0, zu_spro, zu_sstp, zu_swrd]
    · rw [if_neg q1, decide_eq_false q3, if_neg Bool.false_ne_true]
      simp +decide (disch := omega) only [e243_0, e243_5, e243_14, e243_22, e243_30, e243_43, e243_56, e243_64, e243_68, e243_69, e243_74, hT, k1, k2, k3, he, nI_m, q1, q3, h75, zpre, ite_self, Nat.reduceAdd, zs1, zs2, zs3, zI_eqb, and_self, not_true_eq_false, if_true, if_false, ite_true, ite_false, not_false_eq_true, zBP, zBZ, zisO, zisA, zlen, decide_true, decide_false, Bool.and_self, Bool.and_true, Bool.true_and, cond_true, cond_false, zBG, zBR, zBU, zBV, zinb_n, zix_n, zlA, zlB, zlM, zlN, zlX, zlI, nI_add, Nat.add_eq_zero_iff, false_and, and_false, and_true, true_and, true_or, or_true, false_or, or_false, zbool_i, zb0, zb1, zshp_0, zcs_eq, zcs_n, zcs_cs, zup_g, zup_n, zg_srock2, zg_stug2, zg_ssun, zg_ssun0, zg_srock, zg_srock0, zg_stug, zg_stug0, zg_sord, zg_sord0, zg_srep, zg_srep0, zg_scla, zg_scla0, zg_scon, zg_scon0, zg_swin, zg_swin0, zg_sleg, zg_sleg0, zg_spro, zg_sstp, zg_swrd, zu_srock2, zu_stug2, zu_ssun, zu_ssun0, zu_srock, zu_srock0, zu_stug, zu_stug0, zu_sord, zu_sord0, zu_srep, zu_srep0, zu_scla, zu_scla0, zu_scon, zu_scon0, zu_swin, zu_swin0, zu_sleg, zu_sleg0, zu_spro, zu_sstp, zu_swrd]
theorem T243z (d L p0 p2 r2 r3 s4 nr e : Nat) (C : zCt) (K : zGp) (rs : Nat → Nat) (pa : zGp) (hr8 : nr ≤ 8) (hrs : ∀ j, j ≤ 0 → rs j < nr ∧ C 412 0 j = nI (rs j)) (hK : ∀ r, r < nr → C 42 r 9 = K r 9) (he : C 413 0 0 = nI e) (hb : C 401 0 33 = -1) : zR (d + 1) 243 0 [.ref 201, .int 0, zmk, zmk, zmk] [] (zZ L, zI C, zPd p0 p2 r2 r3 s4) = some (none, (zZ L, zI (zcs C 401 (zup (zup (zup (C 401) 0 33 0) 0 34 0) 0 35 (nI e))), zPd p0 p2 r2 r3 s4)) := by
  have hT := T244 d L p0 p2 r2 r3 s4 0 nr C K rs (by omega) hr8 hrs hK
  have h75 := fun x3 v4 => T243_75 (d + 1) L p0 p2 r2 r3 s4 0 e C pa 0 x3 v4 (by omega) (fun j hj => absurd hj (by omega)) he
  rw [show (zwo K rs 0).1 = 0 from rfl, zn0] at hT
  rw [zbl_0, zn0] at h75
  have hz : ∀ F, zcs (zcs C 401 F) 418 (C 418) = zcs C 401 F := by
    intro F
    funext g
    unfold zcs
    by_cases e : g = 418
    · rw [if_pos e, if_neg (by omega), e]
    · rw [if_neg e]
  simp only [hz] at h75
  simp +decide (disch := omega) only [e243_0, e243_5, e243_14, e243_22, e243_30, e243_43, e243_56, e243_64, e243_68, e243_69, e243_74, hT, hb, h75, zpre, ite_self, Nat.reduceAdd, zs1, zs2, zs3, zI_eqb, and_self, not_true_eq_false, if_true, if_false, ite_true, ite_false, not_false_eq_true, zBP, zBZ, zisO, zisA, zlen, decide_true, decide_false, Bool.and_self, Bool.and_true, Bool.true_and, cond_true, cond_false, zBG, zBR, zBU, zBV, zinb_n, zix_n, zlA, zlB, zlM, zlN, zlX, zlI, nI_add, Nat.add_eq_zero_iff, false_and, and_false, and_true, true_and, true_or, or_true, false_or, or_false, zbool_i, zb0, zb1, zshp_0, zcs_eq, zcs_n, zcs_cs, zup_g, zup_n, zg_srock2, zg_stug2, zg_ssun, zg_ssun0, zg_srock, zg_srock0, zg_stug, zg_stug0, zg_sord, zg_sord0, zg_srep, zg_srep0, zg_scla, zg_scla0, zg_scon, zg_scon0, zg_swin, zg_swin0, zg_sleg, zg_sleg0, zg_spro, zg_sstp, zg_swrd, zu_srock2, zu_stug2, zu_ssun, zu_ssun0, zu_srock, zu_srock0, zu_stug, zu_stug0, zu_sord, zu_sord0, zu_srep, zu_srep0, zu_scla, zu_scla0, zu_scon, zu_scon0, zu_swin, zu_swin0, zu_sleg, zu_sleg0, zu_spro, zu_sstp, zu_swrd]

