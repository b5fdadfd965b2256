/-! THE PROGRAM: an E in the model (3), printed by wip/gen/pub66.py -/
/-- the sign is a test, and one stands open -/
def zpd (T : Nat → Nat) (x : zLx) (P : List Nat) : Prop := zsgn T x / 10 = 3 → ∃ (P1 : List Nat) (t : Nat) (P0 : List Nat), P = P1 ++ t :: P0 ∧ t / 10 = 3 ∧ ∀ o, o ∈ P1 → 4 ≤ o / 10
def zKo (l : Nat) (K : List Nat) : Prop := ∀ a r, K = a :: r → a ≠ 3 ∧ a ≠ 4 ∧ (10 ≤ a → a / 10 ≤ l)
def zQt (L p0 p2 r2 r3 s4 : Nat) (T : Nat → Nat) (n l : Nat) (x : zLx) (b s : Nat) (ws : List (Int32 × Int32)) (x' : zLx) : Prop := ∀ (d : Nat) (C : zCt) (K : List Nat) (j : Nat) (v3 : Value), zME T n C x b s K j → zKo l K → (x'.2.2 = 5 ∧ ∃ C', zR (d + 6) 192 19 [.ref 201, .int 1, .int 1, v3] [] (zZ L, zI C, zPd p0 p2 r2 r3 s4) = some (none, (zZ L, zI C', zPd p0 p2 r2 r3 s4)) ∧ zBd C C' x'.1) ∨ (x'.2.2 ≠ 5 ∧ ∃ (C' : zCt) (P : List Nat) (w1 : List (Int32 × Int32)) (v3' : Value), zR (d + 6) 192 19 [.ref 201, .int 1, .int 1, v3] [] (zZ L, zI C, zPd p0 p2 r2 r3 s4) = zR (d + 6) 192 19 [.ref 201, .int 0, .int 1, v3'] [] (zZ L, zI C', zPd p0 p2 r2 r3 s4) ∧ zME T n C' x' b s (P ++ K) (j + w1.length) ∧ zFE j C C' ∧ zmr (C' 406 0) j w1 ∧ ws = w1 ++ P.map zow ∧ (∀ o, o ∈ P → 10 ≤ o ∧ l + 1 ≤ o / 10) ∧ (l ≤ 2 → zpd T x' P))
def zQf (L p0 p2 r2 r3 s4 : Nat) (T : Nat → Nat) (n l : Nat) (x : zLx) (b s : Nat) (x' : zLx) : Prop := ∀ (d : Nat) (C : zCt) (K : List Nat) (j : Nat) (v3 : Value), zME T n C x b s K j → zKo l K → ∃ C', zR (d + 6) 192 19 [.ref 201, .int 1, .int 1, v3] [] (zZ L, zI C, zPd p0 p2 r2 r3 s4) = some (none, (zZ L, zI C', zPd p0 p2 r2 r3 s4)) ∧ zBd C C' x'.1
theorem nI_d10 : ∀ a, a < 100 → nI a / 10 = nI (a / 10) := by decide +kernel
/-- a second test -/
theorem M19_test (d L p0 p2 r2 r3 s4 : Nat) (T : Nat → Nat) (n : Nat) (C : zCt) (x : zLx) (b s : Nat) (P K : List Nat) (j : Nat) (v3 : Value) (hk : zTk T n x) (hC : zME T n C x b s (P ++ K) j) (hP : ∀ o, o ∈ P → 10 ≤ o) (h3 : zsgn T x / 10 = 3) (hpd : zpd T x P) : ∃ C', zR (d + 6) 192 19 [.ref 201, .int 0, .int 1, v3] [] (zZ L, zI C, zPd p0 p2 r2 r3 s4) = some (none, (zZ L, zI C', zPd p0 p2 r2 r3 s4)) ∧ zBd C C' x.1 := by
  obtain ⟨hM, hS, hjx⟩ := hC
  have h10 := hM.2.2.2.2
  have t1 := M197 (d + 5) L p0 p2 r2 r3 s4 C hM hk
  have hlt := (zsc_b (T x.1)).2.2.2.2.2
  have hc60 : zsgn T x < 60 := by unfold zsgn; split <;> omega
  have hd := nI_d10 (zsgn T x) (by omega)
  rw [h3] at hd
  have hd : nI (zsgn T x) / 10 = 3 := hd
  have hn0 : ¬ nI (zsgn T x) = 0 := fun q => by
    have := (nI_eq (b := 0) (by omega) (by decide)).mp q
    rw [this] at h3
    omega
  obtain ⟨P1, t, P0, rfl, ht, hP1⟩ := hpd h3
  obtain ⟨C1, t2, n1, g1, m1⟩ := M198 (d + 4) L p0 p2 r2 r3 s4 4 (by decide) P1 (t :: P0 ++ K) C b s j (by rw [← List.append_assoc]; exact hS) (fun o ho => ⟨hP o (List.mem_append_left _ ho), hP1 o ho⟩) (fun a r e => by
    simp only [List.cons_append, List.cons.injEq] at e
    rw [← e.1]
    omega)
  have t2 : zR (d + 5) 198 0 [.ref 201, .int 4] [] (zZ L, zI C, zPd p0 p2 r2 r3 s4) = some (none, (zZ L, zI C1, zPd p0 p2 r2 r3 s4)) := t2
  obtain ⟨k1, k2, k3, ⟨k4, k4', k4''⟩, k5, k6⟩ := n1
  simp only [List.cons_append, List.length_cons] at k3 k6
  have c1 : ¬ nI ((P0 ++ K).length + 1) ≤ 0 := nI_eqz (by omega) (by omega)
  have ht' := nI_d10 t k4'
  rw [ht] at ht'
  have ht' : nI t / 10 = 3 := ht'
  have k4 : C1 409 0 (P0 ++ K).length = nI t := k4
  have h101 : C1 401 0 10 = 0 := (g1.2.1 10 (by decide) (by decide) (by decide) (by decide)).trans h10
  have h51 : C1 401 0 5 = nI x.1 := (g1.2.1 5 (by decide) (by decide) (by decide) (by decide)).trans hM.2.2.1
  have tw := M182 (d + 5) L p0 p2 r2 r3 s4 C1 h101
  rw [h51] at tw
  have hb : zBd C (zcs C1 401 (zup (zup (C1 401) 0 9 (nI x.1)) 0 10 1)) x.1 := zBd_t (zFE_X g1) (zBd_0 (zPM_X hM g1) hk)
  refine ⟨_, Eq.trans ?_ (M19_bad d L p0 p2 r2 r3 s4 (zcs C1 401 (zup (zup (C1 401) 0 9 (nI x.1)) 0 10 1)) hb.1 0 (.int (nI (zsgn T x)))), hb⟩
  rw [e192_19]
  simp +decide (disch := omega) only [e192_23, e192_30, e192_42, e192_46, e192_51, e192_60, e192_68, e192_71, e192_79, e192_86, e192_104, e192_108, e192_205, h10, t1, hd, hn0, t2, k3, k4, nI_pred, c1, ht', tw, zpre, ite_self, Nat.reduceAdd, zs1, zs2, zs3, zI_eqb, and_self, not_true_eq_false, if_true, if_false, ite_true, ite_false, not_false_eq_true, zBP, zBZ, zisO, zisA, zlen, decide_true, decide_false, Bool.and_self, Bool.and_true, Bool.true_and, cond_true, cond_false, zBG, zBR, zBU, zBV, zinb_n, zix_n, zlA, zlB, zlM, zlN, zlX, zlI, nI_add, Nat.add_eq_zero_iff, false_and, and_false, and_true, true_and, true_or, or_true, false_or, or_false, zbool_i, zb0, zb1, zshp_0, zcs_eq, zcs_n, zcs_cs, zup_g, zup_n, zg_srock2, zg_stug2, zg_ssun, zg_ssun0, zg_srock, zg_srock0, zg_stug, zg_stug0, zg_sord, zg_sord0, zg_srep, zg_srep0, zg_scla, zg_scla0, zg_scon, zg_scon0, zg_swin, zg_swin0, zg_sleg, zg_sleg0, zg_spro, zg_sstp, zg_swrd, zu_srock2, zu_stug2, zu_ssun, zu_ssun0, zu_srock, zu_srock0, zu_stug, zu_stug0, zu_sord, zu_sord0, zu_srep, zu_srep0, zu_scla, zu_scla0, zu_scon, zu_scon0, zu_swin, zu_swin0, zu_sleg, zu_sleg0, zu_spro, zu_sstp, zu_swrd]
/-- a bracket is not closed -/
theorem M19_par (d L p0 p2 r2 r3 s4 : Nat) (T : Nat → Nat) (n : Nat) (C : zCt) (x : zLx) (b s : Nat) (K : List Nat) (j : Nat) (v3 : Value) (hk : zTk T n x) (hC : zME T n C x b s K j) (h0 : zsgn T x = 0) (hb1 : 0 < b) (hb2 : b < 100) (h41 : ¬ zisg T x 41) : ∃ C', zR (d + 6) 192 19 [.ref 201, .int 0, .int 1, v3] [] (zZ L, zI C, zPd p0 p2 r2 r3 s4) = some (none, (zZ L, zI C', zPd p0 p2 r2 r3 s4)) ∧ zBd C C' x.1 := by
  obtain ⟨hM, hS, hjx⟩ := hC
  have h10 := hM.2.2.2.2
  have t1 := M197 (d + 5) L p0 p2 r2 r3 s4 C hM hk
  rw [h0] at t1
  have t1 : zR (d + 5) 197 0 [.ref 201] [] (zZ L, zI C, zPd p0 p2 r2 r3 s4) = some (some (.int 0), (zZ L, zI C, zPd p0 p2 r2 r3 s4)) := t1
  have t2 : zR (d + 5) 183 0 [.ref 201, .int 41] [] (zZ L, zI C, zPd p0 p2 r2 r3 s4) = _ := M183_n (d + 5) L p0 p2 r2 r3 s4 C hM hk (c := 41) (by decide) h41
  have h22 := hS.1
  have c1 : ¬ nI b ≤ 0 := nI_eqz hb1 (by omega)
  have tw := M182 (d + 5) L p0 p2 r2 r3 s4 C h10
  rw [hM.2.2.1] at tw
  refine ⟨_, Eq.trans ?_ (M19_bad0 d L p0 p2 r2 r3 s4 (zcs C 401 (zup (zup (C 401) 0 9 (nI x.1)) 0 10 1)) (by rw [zcs_eq, zup_g]) 0 (.int 0)), zBd_0 hM hk⟩
  rw [e192_19]
  simp +decide (disch := omega) only [e192_23, e192_30, e192_42, e192_46, e192_140, e192_146, e192_192, e192_201, e192_205, h10, t1, t2, h22, c1, tw, zpre, ite_self, Nat.reduceAdd, zs1, zs2, zs3, zI_eqb, and_self, not_true_eq_false, if_true, if_false, ite_true, ite_false, not_false_eq_true, zBP, zBZ, zisO, zisA, zlen, decide_true, decide_false, Bool.and_self, Bool.and_true, Bool.true_and, cond_true, cond_false, zBG, zBR, zBU, zBV, zinb_n, zix_n, zlA, zlB, zlM, zlN, zlX, zlI, nI_add, Nat.add_eq_zero_iff, false_and, and_false, and_true, true_and, true_or, or_true, false_or, or_false, zbool_i, zb0, zb1, zshp_0, zcs_eq, zcs_n, zcs_cs, zup_g, zup_n, zg_srock2, zg_stug2, zg_ssun, zg_ssun0, zg_srock, zg_srock0, zg_stug, zg_stug0, zg_sord, zg_sord0, zg_srep, zg_srep0, zg_scla, zg_scla0, zg_scon, zg_scon0, zg_swin, zg_swin0, zg_sleg, zg_sleg0, zg_spro, zg_sstp, zg_swrd, zu_srock2, zu_stug2, zu_ssun, zu_ssun0, zu_srock, zu_srock0, zu_stug, zu_stug0, zu_sord, zu_sord0, zu_srep, zu_srep0, zu_scla, zu_scla0, zu_scon, zu_scon0, zu_swin, zu_swin0, zu_sleg, zu_sleg0, zu_spro, zu_sstp, zu_swrd]
/-- the end of an E -/
theorem M19_end (d L p0 p2 r2 r3 s4 : Nat) (T : Nat → Nat) (n : Nat) (C : zCt) (x : zLx) (s : Nat) (P : List Nat) (j : Nat) (v3 : Value) (hk : zTk T n x) (hC : zME T n C x 0 s (P ++ []) j) (hP : ∀ o, o ∈ P → 10 ≤ o) (h0 : zsgn T x = 0) : ∃ C', zR (d + 6) 192 19 [.ref 201, .int 0, .int 1, v3] [] (zZ L, zI C, zPd p0 p2 r2 r3 s4) = some (none, (zZ L, zI C', zPd p0 p2 r2 r3 s4)) ∧ zME T n C' x 0 s [] (j + P.length) ∧ zFE j C C' ∧ zmr (C' 406 0) j (P.map zow) := by
  obtain ⟨hM, hS, hjx⟩ := hC
  have h10 := hM.2.2.2.2
  have t1 := M197 (d + 5) L p0 p2 r2 r3 s4 C hM hk
  rw [h0] at t1
  have t1 : zR (d + 5) 197 0 [.ref 201] [] (zZ L, zI C, zPd p0 p2 r2 r3 s4) = some (some (.int 0), (zZ L, zI C, zPd p0 p2 r2 r3 s4)) := t1
  have h22 : C 401 0 22 = 0 := hS.1
  have c1 : (0 : Int32) ≤ 0 := by decide
  obtain ⟨C1, t3, n1, g1, m1⟩ := M198 (d + 4) L p0 p2 r2 r3 s4 1 (by decide) P [] C 0 s j hS (fun o ho => ⟨hP o ho, by have := hP o ho; omega⟩) (fun a r e => absurd e (by simp))
  have t3 : zR (d + 5) 198 0 [.ref 201, .int 1] [] (zZ L, zI C, zPd p0 p2 r2 r3 s4) = some (none, (zZ L, zI C1, zPd p0 p2 r2 r3 s4)) := t3
  have t4 : ∀ w v, zR (d + 6) 192 19 [.ref 201, .int w, .int 0, v] [] (zZ L, zI C, zPd p0 p2 r2 r3 s4) = some (none, (zZ L, zI C1, zPd p0 p2 r2 r3 s4)) := by
    intro w v
    rw [e192_19, if_pos rfl]
    simp +decide (disch := omega) only [e192_208, e192_215, e192_220, h10, t3, zpre, ite_self, Nat.reduceAdd, zs1, zs2, zs3, zI_eqb, and_self, not_true_eq_false, if_true, if_false, ite_true, ite_false, not_false_eq_true, zBP, zBZ, zisO, zisA, zlen, decide_true, decide_false, Bool.and_self, Bool.and_true, Bool.true_and, cond_true, cond_false, zBG, zBR, zBU, zBV, zinb_n, zix_n, zlA, zlB, zlM, zlN, zlX, zlI, nI_add, Nat.add_eq_zero_iff, false_and, and_false, and_true, true_and, true_or, or_true, false_or, or_false, zbool_i, zb0, zb1, zshp_0, zcs_eq, zcs_n, zcs_cs, zup_g, zup_n, zg_srock2, zg_stug2, zg_ssun, zg_ssun0, zg_srock, zg_srock0, zg_stug, zg_stug0, zg_sord, zg_sord0, zg_srep, zg_srep0, zg_scla, zg_scla0, zg_scon, zg_scon0, zg_swin, zg_swin0, zg_sleg, zg_sleg0, zg_spro, zg_sstp, zg_swrd, zu_srock2, zu_stug2, zu_ssun, zu_ssun0, zu_srock, zu_srock0, zu_stug, zu_stug0, zu_sord, zu_sord0, zu_srep, zu_srep0, zu_scla, zu_scla0, zu_scon, zu_scon0, zu_swin, zu_swin0, zu_sleg, zu_sleg0, zu_spro, zu_sstp, zu_swrd]
  refine ⟨C1, ?_, ⟨zPM_X hM g1, n1, by simp only [List.append_nil, List.length_nil] at hjx ⊢; omega⟩, zFE_X g1, m1⟩
  rw [e192_19]
  by_cases h41 : zisg T x 41
  · have t2 : zR (d + 5) 183 0 [.ref 201, .int 41] [] (zZ L, zI C, zPd p0 p2 r2 r3 s4) = _ := M183_y (d + 5) L p0 p2 r2 r3 s4 C hM hk h41
    simp +decide (disch := omega) only [e192_23, e192_30, e192_42, e192_46, e192_140, e192_146, e192_149, e192_192, e192_205, h10, t1, t2, t4, h22, c1, zpre, ite_self, Nat.reduceAdd, zs1, zs2, zs3, zI_eqb, and_self, not_true_eq_false, if_true, if_false, ite_true, ite_false, not_false_eq_true, zBP, zBZ, zisO, zisA, zlen, decide_true, decide_false, Bool.and_self, Bool.and_true, Bool.true_and, cond_true, cond_false, zBG, zBR, zBU, zBV, zinb_n, zix_n, zlA, zlB, zlM, zlN, zlX, zlI, nI_add, Nat.add_eq_zero_iff, false_and, and_false, and_true, true_and, true_or, or_true, false_or, or_false, zbool_i, zb0, zb1, zshp_0, zcs_eq, zcs_n, zcs_cs, zup_g, zup_n, zg_srock2, zg_stug2, zg_ssun, zg_ssun0, zg_srock, zg_srock0, zg_stug, zg_stug0, zg_sord, zg_sord0, zg_srep, zg_srep0, zg_scla, zg_scla0, zg_scon, zg_scon0, zg_swin, zg_swin0, zg_sleg, zg_sleg0, zg_spro, zg_sstp, zg_swrd, zu_srock2, zu_stug2, zu_ssun, zu_ssun0, zu_srock, zu_srock0, zu_stug, zu_stug0, zu_sord, zu_sord0, zu_srep, zu_srep0, zu_scla, zu_scla0, zu_scon, zu_scon0, zu_swin, zu_swin0, zu_sleg, zu_sleg0, zu_spro, zu_sstp, zu_swrd]
  · have t2 : zR (d + 5) 183 0 [.ref 201, .int 41] [] (zZ L, zI C, zPd p0 p2 r2 r3 s4) = _ := M183_n (d + 5) L p0 p2 r2 r3 s4 C hM hk (c := 41) (by decide) h41
    simp +decide (disch := omega) only [e192_23, e192_30, e192_42, e192_46, e192_140, e192_146, e192_192, e192_205, h10, t1, t2, t4, h22, c1, zpre, ite_self, Nat.reduceAdd, zs1, zs2, zs3, zI_eqb, and_self, not_true_eq_false, if_true, if_false, ite_true, ite_false, not_false_eq_true, zBP, zBZ, zisO, zisA, zlen, decide_true, decide_false, Bool.and_self, Bool.and_true, Bool.true_and, cond_true, cond_false, zBG, zBR, zBU, zBV, zinb_n, zix_n, zlA, zlB, zlM, zlN, zlX, zlI, nI_add, Nat.add_eq_zero_iff, false_and, and_false, and_true, true_and, true_or, or_true, false_or, or_false, zbool_i, zb0, zb1, zshp_0, zcs_eq, zcs_n, zcs_cs, zup_g, zup_n, zg_srock2, zg_stug2, zg_ssun, zg_ssun0, zg_srock, zg_srock0, zg_stug, zg_stug0, zg_sord, zg_sord0, zg_srep, zg_srep0, zg_scla, zg_scla0, zg_scon, zg_scon0, zg_swin, zg_swin0, zg_sleg, zg_sleg0, zg_spro, zg_sstp, zg_swrd, zu_srock2, zu_stug2, zu_ssun, zu_ssun0, zu_srock, zu_srock0, zu_stug, zu_stug0, zu_sord, zu_sord0, zu_srep, zu_srep0, zu_scla, zu_scla0, zu_scon, zu_scon0, zu_swin, zu_swin0, zu_sleg, zu_sleg0, zu_spro, zu_sstp, zu_swrd]

theorem V_pret (L p0 p2 r2 r3 s4 : Nat) (T : Nat → Nat) (n : Nat) (x : zLx) (b s : Nat) (hk : zTk T n x) (hs : zisg T x 33 ∨ zisg T x 45) (h8s : s < 8) {ws : List (Int32 × Int32)} {x' : zLx} (hsub : zVt L p0 p2 r2 r3 s4 T n (zadv T n x) b (s + 1) ws x') : zVt L p0 p2 r2 r3 s4 T n x b s (ws ++ [(if T x.1 = 33 then 3 else 4, 0)]) x' := by
  have hkind : x.2.2 = 3 := by rcases hs with q | q <;> exact q.1
  have ha := zadv_k T n x hk.2.1
  have hlt := hk.2.2.2.2.1 (by rw [hkind]; decide)
  intro d C Q K j v3 s0 hC hs0 hQ hK
  obtain ⟨hM, hS, hjx⟩ := hC
  have h120 := hM.1.2.1
  have hn := hk.2.1
  have h10 := hM.2.2.2.2
  have h23 := hS.2.1
  have h21 := hS.2.2.1
  have c1 : ¬ nI s = 8 := fun q => by have := (nI_eq (b := 8) (by omega) (by decide)).mp q; omega
  have key : ∀ o : Nat, (o = 3 ∨ o = 4) → ∃ C2, zR (d + 5) 193 55 [.ref 201] [.int (nI o), .int (nI (Q ++ K).length), .ref 209] (zZ L, zI C, zPd p0 p2 r2 r3 s4) = some (some (.int 1), (zZ L, zI C2, zPd p0 p2 r2 r3 s4)) ∧ zME T n C2 (zadv T n x) b (s + 1) ((o :: Q) ++ K) j ∧ zFE j C C2 := by
    intro o ho
    obtain ⟨C1, hC1⟩ : ∃ C1, C1 = zcs (zcs C 409 (zup (C 409) 0 (Q ++ K).length (nI o))) 401 (zup (zup (C 401) 0 21 (nI ((Q ++ K).length + 1))) 0 23 (nI (s + 1))) := ⟨_, rfl⟩
    have n1 : zSK C1 b (s + 1) (o :: (Q ++ K)) j := by
      rw [hC1]
      exact zSK_pu hS (by omega) (by omega) (by rw [zup_n _ _ (by omega), zup_n _ _ (by omega)]) (by rw [zup_n _ _ (by omega), zup_g]) (by rw [zup_n _ _ (by omega), zup_n _ _ (by omega)]; exact hS.1) (by rw [zup_g])
    have p1 : zPM T n C1 x := by
      rw [hC1]
      exact zPM_pu hM (fun f hf => by rw [zup_n _ _ (by omega), zup_n _ _ (by omega)])
    have f1 : zFE j C C1 := by
      rw [hC1]
      exact zFE_pu (fun f a b c => by rw [zup_n _ _ (by omega), zup_n _ _ (by omega)])
    obtain ⟨F, tm, f2, f3⟩ := M180 (d + 2) L p0 p2 r2 r3 s4 C1 p1 hk.2.1 (by rw [hkind]; decide)
    rcases f2 with ⟨e5, f2⟩ | ⟨e5, _⟩
    case inr => exact absurd e5 (zadv_n5 hkind)
    refine ⟨zcs C1 401 F, ?_, ⟨f2, zSK_4 n1 f3, by simp only [List.cons_append, List.length_cons]; omega⟩, zFE_t f1 (zFE_4 j f3) (Nat.le_refl _)⟩
    rw [hC1] at tm ⊢
    rw [e193_55]
    simp +decide (disch := omega) only [e193_80, h21, h23, tm, zpre, ite_self, Nat.reduceAdd, zs1, zs2, zs3, zI_eqb, and_self, not_true_eq_false, if_true, if_false, ite_true, ite_false, not_false_eq_true, zBP, zBZ, zisO, zisA, zlen, decide_true, decide_false, Bool.and_self, Bool.and_true, Bool.true_and, cond_true, cond_false, zBG, zBR, zBU, zBV, zinb_n, zix_n, zlA, zlB, zlM, zlN, zlX, zlI, nI_add, Nat.add_eq_zero_iff, false_and, and_false, and_true, true_and, true_or, or_true, false_or, or_false, zbool_i, zb0, zb1, zshp_0, zcs_eq, zcs_n, zcs_cs, zup_g, zup_n, zg_srock2, zg_stug2, zg_ssun, zg_ssun0, zg_srock, zg_srock0, zg_stug, zg_stug0, zg_sord, zg_sord0, zg_srep, zg_srep0, zg_scla, zg_scla0, zg_scon, zg_scon0, zg_swin, zg_swin0, zg_sleg, zg_sleg0, zg_spro, zg_sstp, zg_swrd, zu_srock2, zu_stug2, zu_ssun, zu_ssun0, zu_srock, zu_srock0, zu_stug, zu_stug0, zu_sord, zu_sord0, zu_srep, zu_srep0, zu_scla, zu_scla0, zu_scon, zu_scon0, zu_swin, zu_swin0, zu_sleg, zu_sleg0, zu_spro, zu_sstp, zu_swrd]
  by_cases q : zisg T x 33
  · have t1 : zR (d + 4) 183 0 [.ref 201, .int 33] [] (zZ L, zI C, zPd p0 p2 r2 r3 s4) = _ := M183_y (d + 4) L p0 p2 r2 r3 s4 C hM hk q
    obtain ⟨C2, k1, k2, k3⟩ := key 3 (Or.inl rfl)
    rw [zn3] at k1
    have hrun : zR (d + 6) 192 19 [.ref 201, .int 1, .int 1, v3] [] (zZ L, zI C, zPd p0 p2 r2 r3 s4) = zR (d + 6) 192 19 [.ref 201, .int 1, .int 1, v3] [] (zZ L, zI C2, zPd p0 p2 r2 r3 s4) := by
      rw [e192_19]
      simp +decide (disch := omega) only [e192_23, e192_30, e192_34, e192_38, e193_0, e193_6, e193_18, e193_33, e193_47, e193_50, h10, h23, h21, c1, t1, k1, zpre, ite_self, Nat.reduceAdd, zs1, zs2, zs3, zI_eqb, and_self, not_true_eq_false, if_true, if_false, ite_true, ite_false, not_false_eq_true, zBP, zBZ, zisO, zisA, zlen, decide_true, decide_false, Bool.and_self, Bool.and_true, Bool.true_and, cond_true, cond_false, zBG, zBR, zBU, zBV, zinb_n, zix_n, zlA, zlB, zlM, zlN, zlX, zlI, nI_add, Nat.add_eq_zero_iff, false_and, and_false, and_true, true_and, true_or, or_true, false_or, or_false, zbool_i, zb0, zb1, zshp_0, zcs_eq, zcs_n, zcs_cs, zup_g, zup_n, zg_srock2, zg_stug2, zg_ssun, zg_ssun0, zg_srock, zg_srock0, zg_stug, zg_stug0, zg_sord, zg_sord0, zg_srep, zg_srep0, zg_scla, zg_scla0, zg_scon, zg_scon0, zg_swin, zg_swin0, zg_sleg, zg_sleg0, zg_spro, zg_sstp, zg_swrd, zu_srock2, zu_stug2, zu_ssun, zu_ssun0, zu_srock, zu_srock0, zu_stug, zu_stug0, zu_sord, zu_sord0, zu_srep, zu_srep0, zu_scla, zu_scla0, zu_scon, zu_scon0, zu_swin, zu_swin0, zu_sleg, zu_sleg0, zu_spro, zu_sstp, zu_swrd]
    rcases hsub d C2 (3 :: Q) K j v3 s0 k2 (by rw [List.length_cons]; omega) (fun o ho => by rcases List.mem_cons.mp ho with e | e; omega; exact hQ o e) hK with ⟨e5, C', y1, y2⟩ | ⟨e5, C', v3', y1, y2, y3, y4⟩
    · exact Or.inl ⟨e5, C', hrun.trans y1, zBd_t k3 y2⟩
    · rw [if_pos q.2]
      refine Or.inr ⟨e5, C', v3', hrun.trans y1, ?_, zFE_t k3 y3 (Nat.le_refl _), ?_⟩
      · rw [show j + (ws ++ [((3 : Int32), (0 : Int32))]).length + Q.length = j + ws.length + (3 :: Q).length by simp only [List.length_append, List.length_cons, List.length_nil]; omega]
        exact y2
      · rw [List.append_assoc]
        exact y4
  · have t1 : zR (d + 4) 183 0 [.ref 201, .int 33] [] (zZ L, zI C, zPd p0 p2 r2 r3 s4) = _ := M183_n (d + 4) L p0 p2 r2 r3 s4 C hM hk (c := 33) (by decide) q
    have q2 : zisg T x 45 := by rcases hs with w | w; exact absurd w q; exact w
    have t2 : zR (d + 4) 183 0 [.ref 201, .int 45] [] (zZ L, zI C, zPd p0 p2 r2 r3 s4) = _ := M183_y (d + 4) L p0 p2 r2 r3 s4 C hM hk q2
    obtain ⟨C2, k1, k2, k3⟩ := key 4 (Or.inr rfl)
    rw [show nI 4 = 4 from rfl] at k1
    have hrun : zR (d + 6) 192 19 [.ref 201, .int 1, .int 1, v3] [] (zZ L, zI C, zPd p0 p2 r2 r3 s4) = zR (d + 6) 192 19 [.ref 201, .int 1, .int 1, v3] [] (zZ L, zI C2, zPd p0 p2 r2 r3 s4) := by
      rw [e192_19]
      simp +decide (disch := omega) only [e192_23, e192_30, e192_34, e192_38, e193_0, e193_6, e193_9, e193_15, e193_18, e193_33, e193_47, e193_54, h10, h23, h21, c1, t1, t2, k1, zpre, ite_self, Nat.reduceAdd, zs1, zs2, zs3, zI_eqb, and_self, not_true_eq_false, if_true, if_false, ite_true, ite_false, not_false_eq_true, zBP, zBZ, zisO, zisA, zlen, decide_true, decide_false, Bool.and_self, Bool.and_true, Bool.true_and, cond_true, cond_false, zBG, zBR, zBU, zBV, zinb_n, zix_n, zlA, zlB, zlM, zlN, zlX, zlI, nI_add, Nat.add_eq_zero_iff, false_and, and_false, and_true, true_and, true_or, or_true, false_or, or_false, zbool_i, zb0, zb1, zshp_0, zcs_eq, zcs_n, zcs_cs, zup_g, zup_n, zg_srock2, zg_stug2, zg_ssun, zg_ssun0, zg_srock, zg_srock0, zg_stug, zg_stug0, zg_sord, zg_sord0, zg_srep, zg_srep0, zg_scla, zg_scla0, zg_scon, zg_scon0, zg_swin, zg_swin0, zg_sleg, zg_sleg0, zg_spro, zg_sstp, zg_swrd, zu_srock2, zu_stug2, zu_ssun, zu_ssun0, zu_srock, zu_srock0, zu_stug, zu_stug0, zu_sord, zu_sord0, zu_srep, zu_srep0, zu_scla, zu_scla0, zu_scon, zu_scon0, zu_swin, zu_swin0, zu_sleg, zu_sleg0, zu_spro, zu_sstp, zu_swrd]
    rcases hsub d C2 (4 :: Q) K j v3 s0 k2 (by rw [List.length_cons]; omega) (fun o ho => by rcases List.mem_cons.mp ho with e | e; omega; exact hQ o e) hK with ⟨e5, C', y1, y2⟩ | ⟨e5, C', v3', y1, y2, y3, y4⟩
    · exact Or.inl ⟨e5, C', hrun.trans y1, zBd_t k3 y2⟩
    · rw [if_neg (fun e => q ⟨hkind, e⟩)]
      refine Or.inr ⟨e5, C', v3', hrun.trans y1, ?_, zFE_t k3 y3 (Nat.le_refl _), ?_⟩
      · rw [show j + (ws ++ [((4 : Int32), (0 : Int32))]).length + Q.length = j + ws.length + (4 :: Q).length by simp only [List.length_append, List.length_cons, List.length_nil]; omega]
        exact y2
      · rw [List.append_assoc]
        exact y4
theorem V_pref (L p0 p2 r2 r3 s4 : Nat) (T : Nat → Nat) (n : Nat) (x : zLx) (b s : Nat) (hk : zTk T n x) (hs : zisg T x 33 ∨ zisg T x 45) (h8s : s < 8) {ws : List (Int32 × Int32)} {x' : zLx} (hsub : zVf L p0 p2 r2 r3 s4 T n (zadv T n x) b (s + 1) x') : zVf L p0 p2 r2 r3 s4 T n x b s x' := by
  have hkind : x.2.2 = 3 := by rcases hs with q | q <;> exact q.1
  have ha := zadv_k T n x hk.2.1
  have hlt := hk.2.2.2.2.1 (by rw [hkind]; decide)
  intro d C Q K j v3 s0 hC hs0 hQ hK
  obtain ⟨hM, hS, hjx⟩ := hC
  have h120 := hM.1.2.1
  have hn := hk.2.1
  have h10 := hM.2.2.2.2
  have h23 := hS.2.1
  have h21 := hS.2.2.1
  have c1 : ¬ nI s = 8 := fun q => by have := (nI_eq (b := 8) (by omega) (by decide)).mp q; omega
  have key : ∀ o : Nat, (o = 3 ∨ o = 4) → ∃ C2, zR (d + 5) 193 55 [.ref 201] [.int (nI o), .int (nI (Q ++ K).length), .ref 209] (zZ L, zI C, zPd p0 p2 r2 r3 s4) = some (some (.int 1), (zZ L, zI C2, zPd p0 p2 r2 r3 s4)) ∧ zME T n C2 (zadv T n x) b (s + 1) ((o :: Q) ++ K) j ∧ zFE j C C2 := by
    intro o ho
    obtain ⟨C1, hC1⟩ : ∃ C1, C1 = zcs (zcs C 409 (zup (C 409) 0 (Q ++ K).length (nI o))) 401 (zup (zup (C 401) 0 21 (nI ((Q ++ K).length + 1))) 0 23 (nI (s + 1))) := ⟨_, rfl⟩
    have n1 : zSK C1 b (s + 1) (o :: (Q ++ K)) j := by
      rw [hC1]
      exact zSK_pu hS (by omega) (by omega) (by rw [zup_n _ _ (by omega), zup_n _ _ (by omega)]) (by rw [zup_n _ _ (by omega), zup_g]) (by rw [zup_n _ _ (by omega), zup_n _ _ (by omega)]; exact hS.1) (by rw [zup_g])
    have p1 : zPM T n C1 x := by
      rw [hC1]
      exact zPM_pu hM (fun f hf => by rw [zup_n _ _ (by omega), zup_n _ _ (by omega)])
    have f1 : zFE j C C1 := by
      rw [hC1]
      exact zFE_pu (fun f a b c => by rw [zup_n _ _ (by omega), zup_n _ _ (by omega)])
    obtain ⟨F, tm, f2, f3⟩ := M180 (d + 2) L p0 p2 r2 r3 s4 C1 p1 hk.2.1 (by rw [hkind]; decide)
    rcases f2 with ⟨e5, f2⟩ | ⟨e5, _⟩
    case inr => exact absurd e5 (zadv_n5 hkind)
    refine ⟨zcs C1 401 F, ?_, ⟨f2, zSK_4 n1 f3, by simp only [List.cons_append, List.length_cons]; omega⟩, zFE_t f1 (zFE_4 j f3) (Nat.le_refl _)⟩
    rw [hC1] at tm ⊢
    rw [e193_55]
    simp +decide (disch := omega) only [e193_80, h21, h23, tm, zpre, ite_self, Nat.reduceAdd, zs1, zs2, zs3, zI_eqb, and_self, not_true_eq_false, if_true, if_false, ite_true, ite_false, not_false_eq_true, zBP, zBZ, zisO, zisA, zlen, decide_true, decide_false, Bool.and_self, Bool.and_true, Bool.true_and, cond_true, cond_false, zBG, zBR, zBU, zBV, zinb_n, zix_n, zlA, zlB, zlM, zlN, zlX, zlI, nI_add, Nat.add_eq_zero_iff, false_and, and_false, and_true, true_and, true_or, or_true, false_or, or_false, zbool_i, zb0, zb1, zshp_0, zcs_eq, zcs_n, zcs_cs, zup_g, zup_n, zg_srock2, zg_stug2, zg_ssun, zg_ssun0, zg_srock, zg_srock0, zg_stug, zg_stug0, zg_sord, zg_sord0, zg_srep, zg_srep0, zg_scla, zg_scla0, zg_scon, zg_scon0, zg_swin, zg_swin0, zg_sleg, zg_sleg0, zg_spro, zg_sstp, zg_swrd, zu_srock2, zu_stug2, zu_ssun, zu_ssun0, zu_srock, zu_srock0, zu_stug, zu_stug0, zu_sord, zu_sord0, zu_srep, zu_srep0, zu_scla, zu_scla0, zu_scon, zu_scon0, zu_swin, zu_swin0, zu_sleg, zu_sleg0, zu_spro, zu_sstp, zu_swrd]
  by_cases q : zisg T x 33
  · have t1 : zR (d + 4) 183 0 [.ref 201, .int 33] [] (zZ L, zI C, zPd p0 p2 r2 r3 s4) = _ := M183_y (d + 4) L p0 p2 r2 r3 s4 C hM hk q
    obtain ⟨C2, k1, k2, k3⟩ := key 3 (Or.inl rfl)
    rw [zn3] at k1
    have hrun : zR (d + 6) 192 19 [.ref 201, .int 1, .int 1, v3] [] (zZ L, zI C, zPd p0 p2 r2 r3 s4) = zR (d + 6) 192 19 [.ref 201, .int 1, .int 1, v3] [] (zZ L, zI C2, zPd p0 p2 r2 r3 s4) := by
      rw [e192_19]
      simp +decide (disch := omega) only [e192_23, e192_30, e192_34, e192_38, e193_0, e193_6, e193_18, e193_33, e193_47, e193_50, h10, h23, h21, c1, t1, k1, zpre, ite_self, Nat.reduceAdd, zs1, zs2, zs3, zI_eqb, and_self, not_true_eq_false, if_true, if_false, ite_true, ite_false, not_false_eq_true, zBP, zBZ, zisO, zisA, zlen, decide_true, decide_false, Bool.and_self, Bool.and_true, Bool.true_and, cond_true, cond_false, zBG, zBR, zBU, zBV, zinb_n, zix_n, zlA, zlB, zlM, zlN, zlX, zlI, nI_add, Nat.add_eq_zero_iff, false_and, and_false, and_true, true_and, true_or, or_true, false_or, or_false, zbool_i, zb0, zb1, zshp_0, zcs_eq, zcs_n, zcs_cs, zup_g, zup_n, zg_srock2, zg_stug2, zg_ssun, zg_ssun0, zg_srock, zg_srock0, zg_stug, zg_stug0, zg_sord, zg_sord0, zg_srep, zg_srep0, zg_scla, zg_scla0, zg_scon, zg_scon0, zg_swin, zg_swin0, zg_sleg, zg_sleg0, zg_spro, zg_sstp, zg_swrd, zu_srock2, zu_stug2, zu_ssun, zu_ssun0, zu_srock, zu_srock0, zu_stug, zu_stug0, zu_sord, zu_sord0, zu_srep, zu_srep0, zu_scla, zu_scla0, zu_scon, zu_scon0, zu_swin, zu_swin0, zu_sleg, zu_sleg0, zu_spro, zu_sstp, zu_swrd]
    obtain ⟨C', y1, y2⟩ := hsub d C2 (3 :: Q) K j v3 s0 k2 (by rw [List.length_cons]; omega) (fun o ho => by rcases List.mem_cons.mp ho with e | e; omega; exact hQ o e) hK
    exact ⟨C', hrun.trans y1, zBd_t k3 y2⟩
  · have t1 : zR (d + 4) 183 0 [.ref 201, .int 33] [] (zZ L, zI C, zPd p0 p2 r2 r3 s4) = _ := M183_n (d + 4) L p0 p2 r2 r3 s4 C hM hk (c := 33) (by decide) q
    have q2 : zisg T x 45 := by rcases hs with w | w; exact absurd w q; exact w
    have t2 : zR (d + 4) 183 0 [.ref 201, .int 45] [] (zZ L, zI C, zPd p0 p2 r2 r3 s4) = _ := M183_y (d + 4) L p0 p2 r2 r3 s4 C hM hk q2
    obtain ⟨C2, k1, k2, k3⟩ := key 4 (Or.inr rfl)
    rw [show nI 4 = 4 from rfl] at k1
    have hrun : zR (d + 6) 192 19 [.ref 201, .int 1, .int 1, v3] [] (zZ L, zI C, zPd p0 p2 r2 r3 s4) = zR (d + 6) 192 19 [.ref 201, .int 1, .int 1, v3] [] (zZ L, zI C2, zPd p0 p2 r2 r3 s4) := by
      rw [e192_19]
      simp +decide (disch := omega) only [e192_23, e192_30, e192_34, e192_38, e193_0, e193_6, e193_9, e193_15, e193_18, e193_33, e193_47, e193_54, h10, h23, h21, c1, t1, t2, k1, zpre, ite_self, Nat.reduceAdd, zs1, zs2, zs3, zI_eqb, and_self, not_true_eq_false, if_true, if_false, ite_true, ite_false, not_false_eq_true, zBP, zBZ, zisO, zisA, zlen, decide_true, decide_false, Bool.and_self, Bool.and_true, Bool.true_and, cond_true, cond_false, zBG, zBR, zBU, zBV, zinb_n, zix_n, zlA, zlB, zlM, zlN, zlX, zlI, nI_add, Nat.add_eq_zero_iff, false_and, and_false, and_true, true_and, true_or, or_true, false_or, or_false, zbool_i, zb0, zb1, zshp_0, zcs_eq, zcs_n, zcs_cs, zup_g, zup_n, zg_srock2, zg_stug2, zg_ssun, zg_ssun0, zg_srock, zg_srock0, zg_stug, zg_stug0, zg_sord, zg_sord0, zg_srep, zg_srep0, zg_scla, zg_scla0, zg_scon, zg_scon0, zg_swin, zg_swin0, zg_sleg, zg_sleg0, zg_spro, zg_sstp, zg_swrd, zu_srock2, zu_stug2, zu_ssun, zu_ssun0, zu_srock, zu_srock0, zu_stug, zu_stug0, zu_sord, zu_sord0, zu_srep, zu_srep0, zu_scla, zu_scla0, zu_scon, zu_scon0, zu_swin, zu_swin0, zu_sleg, zu_sleg0, zu_spro, zu_sstp, zu_swrd]
    obtain ⟨C', y1, y2⟩ := hsub d C2 (4 :: Q) K j v3 s0 k2 (by rw [List.length_cons]; omega) (fun o ho => by rcases List.mem_cons.mp ho with e | e; omega; exact hQ o e) hK
    exact ⟨C', hrun.trans y1, zBd_t k3 y2⟩
