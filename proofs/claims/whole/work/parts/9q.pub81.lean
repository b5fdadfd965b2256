/-! THE PROGRAM: S in the model (7): the loop of S, printed by wip/gen/pub81.py -/
theorem H_s2 (d L p0 p2 r2 r3 s4 : Nat) (C C' : zCt) {T : Nat → Nat} {n N j t : Nat} {x : zLx} {B : List (Nat × Nat)} (hk : zTk T n x) (h : zMS T n C x N j t B 1) (hs : (x.2.2 = 0 ∧ B ≠ []) ∨ (zisg T x 125 ∧ B = [])) (hr : zR (d + 7) 189 0 [.ref 201, zmk, zmk, zmk, zmk, zmk] [] (zZ L, zI C, zPd p0 p2 r2 r3 s4) = some (none, (zZ L, zI C', zPd p0 p2 r2 r3 s4))) : zR (d + 8) 179 46 [.ref 201, .int 1] [] (zZ L, zI C, zPd p0 p2 r2 r3 s4) = zR (d + 8) 179 46 [.ref 201, .int 1] [] (zZ L, zI C', zPd p0 p2 r2 r3 s4) := by
  obtain ⟨hM, h13, h14, h15, h18, hB, hbk, h19, hx⟩ := h
  have h10 := hM.2.2.2.2
  rw [e179_46]
  rcases hs with ⟨e0, e1⟩ | ⟨e0, e1⟩
  · have t1 : zR (d + 7) 183 0 [.ref 201, .int 125] [] (zZ L, zI C, zPd p0 p2 r2 r3 s4) = _ := M183_n (d + 7) L p0 p2 r2 r3 s4 C hM hk (c := 125) (by decide) (fun q => by rw [q.1] at e0; exact absurd e0 (by decide))
    cases B with
    | nil => exact absurd rfl e1
    | cons q r =>
      simp only [List.length_cons] at h18 hB
      have c0 : ¬ nI (r.length + 1) ≤ 0 := nI_eqz (by omega) (by omega)
      have c1 : ¬ nI (r.length + 1) = 0 := fun w => by have := (nI_eq (b := 0) (by omega) (by decide)).mp w; omega
      simp +decide (disch := omega) only [e179_50, e179_57, e179_64, e179_83, e179_90, e179_97, e179_103, e179_113, e179_117, h10, h19, h18, c0, c1, t1, hr, zpre, ite_self, Nat.reduceAdd, zs1, zs2, zs3, zI_eqb, and_self, not_true_eq_false, if_true, if_false, ite_true, ite_false, not_false_eq_true, zBP, zBZ, zisO, zisA, zlen, decide_true, decide_false, Bool.and_self, Bool.and_true, Bool.true_and, cond_true, cond_false, zBG, zBR, zBU, zBV, zinb_n, zix_n, zlA, zlB, zlM, zlN, zlX, zlI, nI_add, Nat.add_eq_zero_iff, false_and, and_false, and_true, true_and, true_or, or_true, false_or, or_false, zbool_i, zb0, zb1, zshp_0, zcs_eq, zcs_n, zcs_cs, zup_g, zup_n, zg_srock2, zg_stug2, zg_ssun, zg_ssun0, zg_srock, zg_srock0, zg_stug, zg_stug0, zg_sord, zg_sord0, zg_srep, zg_srep0, zg_scla, zg_scla0, zg_scon, zg_scon0, zg_swin, zg_swin0, zg_sleg, zg_sleg0, zg_spro, zg_sstp, zg_swrd, zu_srock2, zu_stug2, zu_ssun, zu_ssun0, zu_srock, zu_srock0, zu_stug, zu_stug0, zu_sord, zu_sord0, zu_srep, zu_srep0, zu_scla, zu_scla0, zu_scon, zu_scon0, zu_swin, zu_swin0, zu_sleg, zu_sleg0, zu_spro, zu_sstp, zu_swrd]
  · subst e1
    have h18 : C 401 0 18 = 0 := h18
    have c0 : (0 : Int32) ≤ 0 := by decide
    have h8 : ¬ C 401 0 8 = 0 := by
      rw [hM.2.1, e0.1]
      decide
    simp +decide (disch := omega) only [e179_50, e179_57, e179_64, e179_71, e179_83, e179_90, e179_113, e179_117, h10, h19, h18, h8, c0, hr, zpre, ite_self, Nat.reduceAdd, zs1, zs2, zs3, zI_eqb, and_self, not_true_eq_false, if_true, if_false, ite_true, ite_false, not_false_eq_true, zBP, zBZ, zisO, zisA, zlen, decide_true, decide_false, Bool.and_self, Bool.and_true, Bool.true_and, cond_true, cond_false, zBG, zBR, zBU, zBV, zinb_n, zix_n, zlA, zlB, zlM, zlN, zlX, zlI, nI_add, Nat.add_eq_zero_iff, false_and, and_false, and_true, true_and, true_or, or_true, false_or, or_false, zbool_i, zb0, zb1, zshp_0, zcs_eq, zcs_n, zcs_cs, zup_g, zup_n, zg_srock2, zg_stug2, zg_ssun, zg_ssun0, zg_srock, zg_srock0, zg_stug, zg_stug0, zg_sord, zg_sord0, zg_srep, zg_srep0, zg_scla, zg_scla0, zg_scon, zg_scon0, zg_swin, zg_swin0, zg_sleg, zg_sleg0, zg_spro, zg_sstp, zg_swrd, zu_srock2, zu_stug2, zu_ssun, zu_ssun0, zu_srock, zu_srock0, zu_stug, zu_stug0, zu_sord, zu_sord0, zu_srep, zu_srep0, zu_scla, zu_scla0, zu_scon, zu_scon0, zu_swin, zu_swin0, zu_sleg, zu_sleg0, zu_spro, zu_sstp, zu_swrd]
/-- the text ends within a block, or a block closes that none opened -/
theorem P_end (d L p0 p2 r2 r3 s4 : Nat) (C : zCt) {T : Nat → Nat} {n N j t : Nat} {x : zLx} {B : List (Nat × Nat)} (hk : zTk T n x) (hC : zMS T n C x N j t B 1) (hs : (x.2.2 = 0 ∧ B ≠ []) ∨ (zisg T x 125 ∧ B = [])) : ∃ C', zR (d + 8) 179 46 [.ref 201, .int 1] [] (zZ L, zI C, zPd p0 p2 r2 r3 s4) = some (none, (zZ L, zI C', zPd p0 p2 r2 r3 s4)) ∧ zBm C C' x.1 := by
  have hk1 : x.2.2 ≠ 1 := by rcases hs with ⟨q, _⟩ | ⟨q, _⟩; rw [q]; decide; rw [q.1]; decide
  have hV : ∀ w, w < 14 → zV T x ≠ zWK w := fun w hw q => hk1 (zV_1 (by omega) q)
  obtain ⟨hM, h13, h14, h15, h18, hB, hbk, h19, hx⟩ := id hC
  have h120 := hM.1.2.1
  have hn := hk.2.1
  have h1' := hk.1
  have t1 := M189_n d L p0 p2 r2 r3 s4 C hM hk h14 h15 (zsm_0 hV)
  have p1 := zc1_M (t := t) hM
  have tw := M182 (d + 6) L p0 p2 r2 r3 s4 (zc1 C t) p1.2.2.2.2
  rw [p1.2.2.1] at tw
  have k0 : ¬ lg_cmp (zlw T x) (Int64.ofNat 985) = 0 := fun q => hV 0 (by decide) ((zlw_eq (T := T) hk (k := 985) (by decide) (by decide)).mp q)
  have k1 : ¬ lg_cmp (zlw T x) (Int64.ofNat 55175) = 0 := fun q => hV 1 (by decide) ((zlw_eq (T := T) hk (k := 55175) (by decide) (by decide)).mp q)
  have k11 : ¬ lg_cmp (zlw T x) (Int64.ofNat 11450658) = 0 := fun q => hV 11 (by decide) ((zlw_eq (T := T) hk (k := 11450658) (by decide) (by decide)).mp q)
  have k12 : ¬ lg_cmp (zlw T x) (Int64.ofNat 249) = 0 := fun q => hV 12 (by decide) ((zlw_eq (T := T) hk (k := 249) (by decide) (by decide)).mp q)
  have k13 : ¬ lg_cmp (zlw T x) (Int64.ofNat 12387497) = 0 := fun q => hV 13 (by decide) ((zlw_eq (T := T) hk (k := 12387497) (by decide) (by decide)).mp q)
  have hr : zR (d + 7) 189 0 [.ref 201, zmk, zmk, zmk, zmk, zmk] [] (zZ L, zI C, zPd p0 p2 r2 r3 s4) = some (none, (zZ L, zI (zcs (zc1 C t) 401 (zup (zup ((zc1 C t) 401) 0 9 (nI x.1)) 0 10 1)), zPd p0 p2 r2 r3 s4)) := by
    rw [t1]
    unfold l89
    simp +decide (disch := omega) only [e189_51, e189_63, e189_85, e189_98, e189_153, e189_167, e189_195, e189_206, e189_210, e189_224, e189_296, e189_300, t187_aim, t187_burn, t187_until, t187_if, t187_while, k0, k1, k11, k12, k13, tw, List.cons_append, List.nil_append, zpre, ite_self, Nat.reduceAdd, zs1, zs2, zs3, zI_eqb, and_self, not_true_eq_false, if_true, if_false, ite_true, ite_false, not_false_eq_true, zBP, zBZ, zisO, zisA, zlen, decide_true, decide_false, Bool.and_self, Bool.and_true, Bool.true_and, cond_true, cond_false, zBG, zBR, zBU, zBV, zinb_n, zix_n, zlA, zlB, zlM, zlN, zlX, zlI, nI_add, Nat.add_eq_zero_iff, false_and, and_false, and_true, true_and, true_or, or_true, false_or, or_false, zbool_i, zb0, zb1, zshp_0, zcs_eq, zcs_n, zcs_cs, zup_g, zup_n, zg_srock2, zg_stug2, zg_ssun, zg_ssun0, zg_srock, zg_srock0, zg_stug, zg_stug0, zg_sord, zg_sord0, zg_srep, zg_srep0, zg_scla, zg_scla0, zg_scon, zg_scon0, zg_swin, zg_swin0, zg_sleg, zg_sleg0, zg_spro, zg_sstp, zg_swrd, zu_srock2, zu_stug2, zu_ssun, zu_ssun0, zu_srock, zu_srock0, zu_stug, zu_stug0, zu_sord, zu_sord0, zu_srep, zu_srep0, zu_scla, zu_scla0, zu_scon, zu_scon0, zu_swin, zu_swin0, zu_sleg, zu_sleg0, zu_spro, zu_sstp, zu_swrd]
  refine ⟨_, (H_s2 d L p0 p2 r2 r3 s4 C _ hk hC hs hr).trans (H_bad d L p0 p2 r2 r3 s4 _ (by rw [zcs_eq, zup_g])), zBm_t (zc1_F (N := 0) (j := 0)) (zbm_wr (T := T) (n := n) p1.2.2.1)⟩

/-- many S, in the model, up to what ends them -/
def zYt (L p0 p2 r2 r3 s4 : Nat) (T : Nat → Nat) (n : Nat) (sm : Int32) (x : zLx) (be N j : Nat) (G : List zUn) (c : Nat) (x' : zLx) : Prop := ∀ (d : Nat) (C : zCt) (t : Nat) (B : List (Nat × Nat)), B.length = be → zMS T n C x N j t B sm → ∃ C', zR (d + 8) 179 46 [.ref 201, .int 1] [] (zZ L, zI C, zPd p0 p2 r2 r3 s4) = zR (d + 8) 179 46 [.ref 201, .int 1] [] (zZ L, zI C', zPd p0 p2 r2 r3 s4) ∧ zMS T n C' x' (N + G.length) (j + zwc G) (t + c) B 1 ∧ zFS N j C C' ∧ zgs (C' 405 0) (C' 406 0) N j G
def zYf (L p0 p2 r2 r3 s4 : Nat) (T : Nat → Nat) (n : Nat) (sm : Int32) (x : zLx) (be N j : Nat) (x' : zLx) : Prop := ∀ (d : Nat) (C : zCt) (t : Nat) (B : List (Nat × Nat)), B.length = be → zMS T n C x N j t B sm → ∃ C', zR (d + 8) 179 46 [.ref 201, .int 1] [] (zZ L, zI C, zPd p0 p2 r2 r3 s4) = some (none, (zZ L, zI C', zPd p0 p2 r2 r3 s4)) ∧ zBm C C' x'.1
theorem Y_stop (L p0 p2 r2 r3 s4 : Nat) (T : Nat → Nat) (n : Nat) (x : zLx) (be N j : Nat) : zYt L p0 p2 r2 r3 s4 T n 1 x be N j [] 0 x := by
  intro d C t B hbe hC
  exact ⟨C, rfl, hC, zFS_r N j C, trivial⟩
theorem Y_f (L p0 p2 r2 r3 s4 : Nat) (T : Nat → Nat) (n : Nat) (sm : Int32) (x : zLx) (be N j : Nat) (hsm : sm = 0 ∨ (sm = 1 ∧ x.2.2 ≠ 0 ∧ ¬ zisg T x 125)) {x1 : zLx} (h1 : zPf L p0 p2 r2 r3 s4 T n x be N j x1) : zYf L p0 p2 r2 r3 s4 T n sm x be N j x1 := fun d C t B hbe hC => h1 d C t B sm hbe hC hsm
theorem Y_t (L p0 p2 r2 r3 s4 : Nat) (T : Nat → Nat) (n : Nat) (sm : Int32) (x : zLx) (be N j : Nat) (hsm : sm = 0 ∨ (sm = 1 ∧ x.2.2 ≠ 0 ∧ ¬ zisg T x 125)) {G1 G2 : List zUn} {c1 c2 : Nat} {x1 x2 : zLx} (h1 : zPt L p0 p2 r2 r3 s4 T n x be N j G1 c1 x1) (hb : ¬ zbx T x1) (h2 : zYt L p0 p2 r2 r3 s4 T n 1 x1 be (N + G1.length) (j + zwc G1) G2 c2 x2) : zYt L p0 p2 r2 r3 s4 T n sm x be N j (G1 ++ G2) (c1 + c2) x2 := by
  intro d C t B hbe hC
  rcases h1 d C t B sm hbe hC hsm with ⟨q, _⟩ | ⟨_, C1, e1, m1, f1, g1⟩
  · exact absurd q hb
  obtain ⟨C2, e2, m2, f2, g2⟩ := h2 d C1 (t + c1) B hbe m1
  refine ⟨C2, e1.trans e2, ?_, zFS_t f1 f2 (by omega) (by omega), zgs_app.mpr ⟨zgs_c (fun i _ hi => f2.2.2.1 i hi) (fun i _ hi => f2.2.2.2 i hi) g1, g2⟩⟩
  rw [List.length_append, zwc_app, ← Nat.add_assoc, ← Nat.add_assoc, ← Nat.add_assoc]
  exact m2
theorem Y_g (L p0 p2 r2 r3 s4 : Nat) (T : Nat → Nat) (n : Nat) (sm : Int32) (x : zLx) (be N j : Nat) (hsm : sm = 0 ∨ (sm = 1 ∧ x.2.2 ≠ 0 ∧ ¬ zisg T x 125)) {G1 : List zUn} {c1 : Nat} {x1 x2 : zLx} (h1 : zPt L p0 p2 r2 r3 s4 T n x be N j G1 c1 x1) (hb : ¬ zbx T x1) (h2 : zYf L p0 p2 r2 r3 s4 T n 1 x1 be (N + G1.length) (j + zwc G1) x2) : zYf L p0 p2 r2 r3 s4 T n sm x be N j x2 := by
  intro d C t B hbe hC
  rcases h1 d C t B sm hbe hC hsm with ⟨q, _⟩ | ⟨_, C1, e1, m1, f1, g1⟩
  · exact absurd q hb
  obtain ⟨C2, e2, b2⟩ := h2 d C1 (t + c1) B hbe m1
  exact ⟨C2, e1.trans e2, zBm_t f1 b2⟩
theorem zbx_n {T : Nat → Nat} {x : zLx} (h : zbx T x) : x.2.2 ≠ 0 ∧ ¬ zisg T x 125 ∧ ∀ w, w < 15 → zV T x ≠ zWK w := by
  rcases h with h | h
  · exact ⟨by rw [h]; decide, fun q => by rw [q.1] at h; exact absurd h (by decide), fun w hw q => by rw [zV_1 hw q] at h; exact absurd h (by decide)⟩
  · have h3 : x.2.2 = 3 := Classical.byContradiction fun q => by unfold zsgn at h; rw [if_neg q] at h; exact absurd h (by decide)
    refine ⟨by rw [h3]; decide, fun q => ?_, fun w hw q => by rw [zV_1 hw q] at h3; exact absurd h3 (by decide)⟩
    unfold zsgn at h
    rw [if_pos h3, q.2] at h
    exact absurd h (by decide)
theorem Y_b (L p0 p2 r2 r3 s4 : Nat) (T : Nat → Nat) (n : Nat) (sm : Int32) (x : zLx) (be N j : Nat) (hsm : sm = 0 ∨ (sm = 1 ∧ x.2.2 ≠ 0 ∧ ¬ zisg T x 125)) {G1 : List zUn} {c1 : Nat} {x1 : zLx} (h1 : zPt L p0 p2 r2 r3 s4 T n x be N j G1 c1 x1) (hk1 : zTk T n x1) (hb : zbx T x1) : zYf L p0 p2 r2 r3 s4 T n sm x be N j x1 := by
  intro d C t B hbe hC
  rcases h1 d C t B sm hbe hC hsm with ⟨_, C1, e1, b1⟩ | ⟨_, C1, e1, m1, f1, g1⟩
  · exact ⟨C1, e1, b1⟩
  have hz := zbx_n hb
  obtain ⟨C2, e2, b2⟩ := P_none L p0 p2 r2 r3 s4 T n x1 be (N + G1.length) (j + zwc G1) hk1 (fun w hw => hz.2.2 w (by omega)) d C1 (t + c1) B 1 hbe m1 (Or.inr ⟨rfl, hz.1, hz.2.1⟩)
  exact ⟨C2, e1.trans e2, zBm_t f1 b2⟩

