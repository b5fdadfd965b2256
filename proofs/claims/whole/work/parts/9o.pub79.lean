/-! THE PROGRAM: S in the model (5), printed by wip/gen/pub79.py -/
theorem zbk_c {f g f' g' : Nat → Int32} : ∀ {B : List (Nat × Nat)}, (∀ i, i < B.length → f' i = f i ∧ g' i = g i) → zbk f g B → zbk f' g' B := by
  intro B
  induction B with
  | nil => intro _ _; trivial
  | cons q r IH =>
    rintro h ⟨h1, h2, h3⟩
    simp only [List.length_cons] at h
    exact ⟨(h _ (by omega)).1.trans h1, (h _ (by omega)).2.trans h2, IH (fun i hi => h i (by omega)) h3⟩
/-- a block is opened -/
theorem M188_t (d L p0 p2 r2 r3 s4 : Nat) (C : zCt) {T : Nat → Nat} {n N j t wh at_ : Nat} {x : zLx} {B : List (Nat × Nat)} {sm : Int32} (hM : zPM T n C x) (hk : zTk T n x) (hm : zm5 C N j t B sm) (hs : zisg T x 123) (h4 : B.length < 4) : ∃ C', zR (d + 6) 188 0 [.ref 201, .int (nI wh), .int (nI at_)] [] (zZ L, zI C, zPd p0 p2 r2 r3 s4) = some (none, (zZ L, zI C', zPd p0 p2 r2 r3 s4)) ∧ zPM T n C' (zadv T n x) ∧ zm5 C' N j t ((wh, at_) :: B) 0 ∧ (∀ N' j', zFS N' j' C C') ∧ C' 405 = C 405 ∧ C' 406 = C 406 := by
  have h10 := hM.2.2.2.2
  have t1 : zR (d + 5) 183 0 [.ref 201, .int 123] [] (zZ L, zI C, zPd p0 p2 r2 r3 s4) = _ := M183_y (d + 5) L p0 p2 r2 r3 s4 C hM hk hs
  have h18 := hm.2.2.2.1
  have c4 : ¬ nI B.length = 4 := fun q => by have := (nI_eq (b := 4) (by omega) (by decide)).mp q; omega
  obtain ⟨C3, hC3⟩ : ∃ C3, C3 = (zcs (zcs (zcs C 407 (zup (C 407) 0 B.length (nI wh))) 408 (zup (C 408) 0 B.length (nI at_))) 401 (zup (zup (C 401) 0 18 (nI (B.length + 1))) 0 19 0)) := ⟨_, rfl⟩
  have g401 : ∀ f, f ≠ 18 → f ≠ 19 → C3 401 0 f = C 401 0 f := fun f a b => by rw [hC3, zcs_eq, zup_n _ _ (by omega), zup_n _ _ (by omega)]
  have gg : ∀ g, g ≠ 401 → g ≠ 407 → g ≠ 408 → C3 g = C g := fun g a b c => by rw [hC3, zcs_n _ _ a, zcs_n _ _ c, zcs_n _ _ b]
  have p3 : zPM T n C3 x := by
    unfold zPM zMT at *
    rw [g401 7 (by decide) (by decide), g401 8 (by decide) (by decide), g401 5 (by decide) (by decide), g401 6 (by decide) (by decide), g401 10 (by decide) (by decide), gg 404 (by decide) (by decide) (by decide)]
    exact hM
  have n3 : zm5 C3 N j t ((wh, at_) :: B) 0 := by
    refine ⟨by rw [g401 13 (by decide) (by decide)]; exact hm.1, by rw [g401 14 (by decide) (by decide)]; exact hm.2.1, by rw [g401 15 (by decide) (by decide)]; exact hm.2.2.1, ?_, by rw [List.length_cons]; omega, ⟨?_, ?_, zbk_c (fun i hi => ⟨?_, ?_⟩) hm.2.2.2.2.2.1⟩, ?_⟩
    · rw [hC3, zcs_eq, zup_n _ _ (by omega), zup_g]; rfl
    · rw [hC3, zcs_n _ _ (by decide), zcs_n _ _ (by decide), zcs_eq, zup_g]
    · rw [hC3, zcs_n _ _ (by decide), zcs_eq, zup_g]
    · rw [hC3, zcs_n _ _ (by decide), zcs_n _ _ (by decide), zcs_eq, zup_n _ _ (by omega)]
    · rw [hC3, zcs_n _ _ (by decide), zcs_eq, zup_n _ _ (by omega)]
    · rw [hC3, zcs_eq, zup_g]
  obtain ⟨F, t2, f2, f3⟩ := M180 (d + 3) L p0 p2 r2 r3 s4 C3 p3 hk.2.1 (by rw [hs.1]; decide)
  rcases f2 with ⟨e5, f2⟩ | ⟨e5, _⟩
  case inr => exact absurd e5 (zadv_n5 hs.1)
  refine ⟨zcs C3 401 F, ?_, f2, zm5_4 n3 f3, fun N' j' => ⟨fun g a b c d e k => by rw [zcs_n _ _ a, gg g a d e], fun f a0 a1 a2 a3 a4 a5 a6 a7 a8 a9 a10 a11 a12 => by rw [zcs_eq, f3 f a0 a1 a2 a3 a4, g401 f a8 a9], fun i _ => by rw [zcs_n _ _ (by decide), gg 405 (by decide) (by decide) (by decide)], fun i _ => by rw [zcs_n _ _ (by decide), gg 406 (by decide) (by decide) (by decide)]⟩, by rw [zcs_n _ _ (by decide), gg 405 (by decide) (by decide) (by decide)], by rw [zcs_n _ _ (by decide), gg 406 (by decide) (by decide) (by decide)]⟩
  rw [hC3] at t2 ⊢
  simp +decide (disch := omega) only [e188_0, e188_8, e188_14, e188_17, e188_30, e188_69, h10, h18, c4, t1, t2, zpre, ite_self, Nat.reduceAdd, zs1, zs2, zs3, zI_eqb, and_self, not_true_eq_false, if_true, if_false, ite_true, ite_false, not_false_eq_true, zBP, zBZ, zisO, zisA, zlen, decide_true, decide_false, Bool.and_self, Bool.and_true, Bool.true_and, cond_true, cond_false, zBG, zBR, zBU, zBV, zinb_n, zix_n, zlA, zlB, zlM, zlN, zlX, zlI, nI_add, Nat.add_eq_zero_iff, false_and, and_false, and_true, true_and, true_or, or_true, false_or, or_false, zbool_i, zb0, zb1, zshp_0, zcs_eq, zcs_n, zcs_cs, zup_g, zup_n, zg_srock2, zg_stug2, zg_ssun, zg_ssun0, zg_srock, zg_srock0, zg_stug, zg_stug0, zg_sord, zg_sord0, zg_srep, zg_srep0, zg_scla, zg_scla0, zg_scon, zg_scon0, zg_swin, zg_swin0, zg_sleg, zg_sleg0, zg_spro, zg_sstp, zg_swrd, zu_srock2, zu_stug2, zu_ssun, zu_ssun0, zu_srock, zu_srock0, zu_stug, zu_stug0, zu_sord, zu_sord0, zu_srep, zu_srep0, zu_scla, zu_scla0, zu_scon, zu_scon0, zu_swin, zu_swin0, zu_sleg, zu_sleg0, zu_spro, zu_sstp, zu_swrd]
theorem M188_n (d L p0 p2 r2 r3 s4 : Nat) (C : zCt) {T : Nat → Nat} {n N j t : Nat} {x : zLx} {B : List (Nat × Nat)} {sm : Int32} (wh at_ : Int32) (hM : zPM T n C x) (hk : zTk T n x) (hm : zm5 C N j t B sm) (hs : ¬ zisg T x 123 ∨ B.length = 4) : zR (d + 6) 188 0 [.ref 201, .int wh, .int at_] [] (zZ L, zI C, zPd p0 p2 r2 r3 s4) = some (none, (zZ L, zI (zcs C 401 (zup (zup (C 401) 0 9 (nI x.1)) 0 10 1)), zPd p0 p2 r2 r3 s4)) := by
  have h10 := hM.2.2.2.2
  have tw := M182 (d + 5) L p0 p2 r2 r3 s4 C h10
  rw [hM.2.2.1] at tw
  by_cases q : zisg T x 123
  · have h4 : B.length = 4 := by rcases hs with w | w; exact absurd q w; exact w
    have h18 : C 401 0 18 = 4 := by rw [hm.2.2.2.1, h4]; rfl
    have t1 : zR (d + 5) 183 0 [.ref 201, .int 123] [] (zZ L, zI C, zPd p0 p2 r2 r3 s4) = _ := M183_y (d + 5) L p0 p2 r2 r3 s4 C hM hk q
    simp +decide (disch := omega) only [e188_0, e188_8, e188_14, e188_17, e188_25, e188_29, h10, h18, t1, tw, zpre, ite_self, Nat.reduceAdd, zs1, zs2, zs3, zI_eqb, and_self, not_true_eq_false, if_true, if_false, ite_true, ite_false, not_false_eq_true, zBP, zBZ, zisO, zisA, zlen, decide_true, decide_false, Bool.and_self, Bool.and_true, Bool.true_and, cond_true, cond_false, zBG, zBR, zBU, zBV, zinb_n, zix_n, zlA, zlB, zlM, zlN, zlX, zlI, nI_add, Nat.add_eq_zero_iff, false_and, and_false, and_true, true_and, true_or, or_true, false_or, or_false, zbool_i, zb0, zb1, zshp_0, zcs_eq, zcs_n, zcs_cs, zup_g, zup_n, zg_srock2, zg_stug2, zg_ssun, zg_ssun0, zg_srock, zg_srock0, zg_stug, zg_stug0, zg_sord, zg_sord0, zg_srep, zg_srep0, zg_scla, zg_scla0, zg_scon, zg_scon0, zg_swin, zg_swin0, zg_sleg, zg_sleg0, zg_spro, zg_sstp, zg_swrd, zu_srock2, zu_stug2, zu_ssun, zu_ssun0, zu_srock, zu_srock0, zu_stug, zu_stug0, zu_sord, zu_sord0, zu_srep, zu_srep0, zu_scla, zu_scla0, zu_scon, zu_scon0, zu_swin, zu_swin0, zu_sleg, zu_sleg0, zu_spro, zu_sstp, zu_swrd]
  · have t1 : zR (d + 5) 183 0 [.ref 201, .int 123] [] (zZ L, zI C, zPd p0 p2 r2 r3 s4) = _ := M183_n (d + 5) L p0 p2 r2 r3 s4 C hM hk (c := 123) (by decide) q
    simp +decide (disch := omega) only [e188_0, e188_8, e188_14, e188_25, e188_29, h10, t1, tw, zpre, ite_self, Nat.reduceAdd, zs1, zs2, zs3, zI_eqb, and_self, not_true_eq_false, if_true, if_false, ite_true, ite_false, not_false_eq_true, zBP, zBZ, zisO, zisA, zlen, decide_true, decide_false, Bool.and_self, Bool.and_true, Bool.true_and, cond_true, cond_false, zBG, zBR, zBU, zBV, zinb_n, zix_n, zlA, zlB, zlM, zlN, zlX, zlI, nI_add, Nat.add_eq_zero_iff, false_and, and_false, and_true, true_and, true_or, or_true, false_or, or_false, zbool_i, zb0, zb1, zshp_0, zcs_eq, zcs_n, zcs_cs, zup_g, zup_n, zg_srock2, zg_stug2, zg_ssun, zg_ssun0, zg_srock, zg_srock0, zg_stug, zg_stug0, zg_sord, zg_sord0, zg_srep, zg_srep0, zg_scla, zg_scla0, zg_scon, zg_scon0, zg_swin, zg_swin0, zg_sleg, zg_sleg0, zg_spro, zg_sstp, zg_swrd, zu_srock2, zu_stug2, zu_ssun, zu_ssun0, zu_srock, zu_srock0, zu_stug, zu_stug0, zu_sord, zu_sord0, zu_srep, zu_srep0, zu_scla, zu_scla0, zu_scon, zu_scon0, zu_swin, zu_swin0, zu_sleg, zu_sleg0, zu_spro, zu_sstp, zu_swrd]
theorem M188_b (d L p0 p2 r2 r3 s4 : Nat) (C : zCt) (h : C 401 0 10 = 1) (wh at_ : Int32) : zR d 188 0 [.ref 201, .int wh, .int at_] [] (zZ L, zI C, zPd p0 p2 r2 r3 s4) = some (none, (zZ L, zI C, zPd p0 p2 r2 r3 s4)) := by
  simp +decide (disch := omega) only [e188_0, e188_7, h, zpre, ite_self, Nat.reduceAdd, zs1, zs2, zs3, zI_eqb, and_self, not_true_eq_false, if_true, if_false, ite_true, ite_false, not_false_eq_true, zBP, zBZ, zisO, zisA, zlen, decide_true, decide_false, Bool.and_self, Bool.and_true, Bool.true_and, cond_true, cond_false, zBG, zBR, zBU, zBV, zinb_n, zix_n, zlA, zlB, zlM, zlN, zlX, zlI, nI_add, Nat.add_eq_zero_iff, false_and, and_false, and_true, true_and, true_or, or_true, false_or, or_false, zbool_i, zb0, zb1, zshp_0, zcs_eq, zcs_n, zcs_cs, zup_g, zup_n, zg_srock2, zg_stug2, zg_ssun, zg_ssun0, zg_srock, zg_srock0, zg_stug, zg_stug0, zg_sord, zg_sord0, zg_srep, zg_srep0, zg_scla, zg_scla0, zg_scon, zg_scon0, zg_swin, zg_swin0, zg_sleg, zg_sleg0, zg_spro, zg_sstp, zg_swrd, zu_srock2, zu_stug2, zu_ssun, zu_ssun0, zu_srock, zu_srock0, zu_stug, zu_stug0, zu_sord, zu_sord0, zu_srep, zu_srep0, zu_scla, zu_scla0, zu_scon, zu_scon0, zu_swin, zu_swin0, zu_sleg, zu_sleg0, zu_spro, zu_sstp, zu_swrd]

theorem O_iff (L p0 p2 r2 r3 s4 : Nat) (T : Nat → Nat) (n : Nat) (x : zLx) (be N j : Nat) (hk : zTk T n x) (hV : zV T x = zWK 12) (hx5 : (zadv T n x).2.2 ≠ 5) {x2 : zLx} (hq : zQf L p0 p2 r2 r3 s4 T n 0 (zadv T n x) 0 0 x2) : zPf L p0 p2 r2 r3 s4 T n x be N j x2 := by
  have hkind := zV_1 (by omega) hV
  have ha := zadv_k T n x hk.2.1
  have hlt := hk.2.2.2.2.1 (by rw [hkind]; decide)
  intro d C t B sm hbe hC hsm
  obtain ⟨hM, h13, h14, h15, h18, hB, hbk, h19, hx⟩ := id hC
  have h120 := hM.1.2.1
  have hn := hk.2.1
  have h1' := hk.1
  have hm5 := zMS_5 hC
  have t1 := M189_n d L p0 p2 r2 r3 s4 C hM hk h14 h15 (by rw [hV]; rfl)
  have p1 := zc1_M (t := t) hM
  have n1 := zm5_c1 hm5
  have k0 : ¬ lg_cmp (zlw T x) (Int64.ofNat 985) = 0 := fun q => by have := (zlw_eq (T := T) hk (k := 985) (by decide) (by decide)).mp q; rw [hV] at this; exact absurd this (by decide)
  have k1 : ¬ lg_cmp (zlw T x) (Int64.ofNat 55175) = 0 := fun q => by have := (zlw_eq (T := T) hk (k := 55175) (by decide) (by decide)).mp q; rw [hV] at this; exact absurd this (by decide)
  have k11 : ¬ lg_cmp (zlw T x) (Int64.ofNat 11450658) = 0 := fun q => by have := (zlw_eq (T := T) hk (k := 11450658) (by decide) (by decide)).mp q; rw [hV] at this; exact absurd this (by decide)
  have k12 : (lg_cmp (zlw T x) (Int64.ofNat 249) = 0) = True := eq_true ((zlw_eq (T := T) hk (k := 249) (by decide) (by decide)).mpr hV)
  obtain ⟨F, t2, f2, f3⟩ := M180 (d + 4) L p0 p2 r2 r3 s4 (zc1 C t) p1 hk.2.1 (by rw [hkind]; decide)
  have n2 := zm5_4 n1 f3
  have fr2 : zFS N j C (zcs (zc1 C t) 401 F) := zFS_t zc1_F (zFS_M f3) (Nat.le_refl _) (Nat.le_refl _)
  obtain ⟨C2, hC2⟩ : ∃ C2, C2 = zcs (zc1 C t) 401 F := ⟨_, rfl⟩
  rcases f2 with ⟨e5, f2⟩ | ⟨e5, _⟩
  case inr => exact absurd e5 hx5
  rw [← hC2] at t2 f2 n2 fr2
  have q13 := n2.1
  have t3 := M185 (d + 6) L p0 p2 r2 r3 s4 C2 (N := N) (by omega) n2.1 13 (nI j) 0 0
  obtain ⟨C3, hC3⟩ : ∃ C3, C3 = zsp C2 N 13 (nI j) 0 0 := ⟨_, rfl⟩
  rw [← hC3] at t3
  have n3 : zm5 C3 (N + 1) j (t + 1) B 1 := by rw [hC3]; exact zm5_sp n2
  have p3 : zPM T n C3 (zadv T n x) := by rw [hC3]; exact zPM_sp f2
  have fr3 : zFS N j C C3 := zFS_t fr2 (by rw [hC3]; exact zFS_st) (Nat.le_refl _) (Nat.le_refl _)
  obtain ⟨C4, t4, b4⟩ := MX_f d L p0 p2 r2 r3 s4 C3 p3 n3.2.1 (by omega) (by have := ha.1.1; have := ha.1.2.1; omega) hq
  have b5 : zBm C (zcs C4 405 (zup (C4 405) 0 (4 * N + 2) (C4 401 0 14))) x2.1 := ⟨by rw [zcs_n _ _ (by decide)]; exact b4.1, by rw [zcs_n _ _ (by decide)]; exact b4.2.1, zFS_t (zFS_w fr3 (Nat.zero_le _) (Nat.zero_le _)) (zFS_t (zBm_d b4).2.2 ⟨fun g a b _ _ _ _ => by rw [zcs_n _ _ b], fun f _ _ _ _ _ _ _ _ _ _ _ _ _ => by rw [zcs_n _ _ (by decide)], fun i hi => absurd hi (by omega), fun i hi => absurd hi (by omega)⟩ (Nat.le_refl _) (Nat.le_refl _)) (Nat.le_refl _) (Nat.le_refl _)⟩
  have t5 := M188_b (d + 6) L p0 p2 r2 r3 s4 _ b5.1 0 (nI N)
  have hr : zR (d + 7) 189 0 [.ref 201, zmk, zmk, zmk, zmk, zmk] [] (zZ L, zI C, zPd p0 p2 r2 r3 s4) = some (none, (zZ L, zI (zcs C4 405 (zup (C4 405) 0 (4 * N + 2) (C4 401 0 14))), zPd p0 p2 r2 r3 s4)) := by
    rw [t1]
    unfold l89
    simp +decide (disch := omega) only [e189_51, e189_63, e189_85, e189_98, e189_153, e189_167, e189_195, e189_206, t187_aim, t187_burn, t187_until, t187_if, k0, k1, k11, k12, e189_228, e189_232, e189_248, e189_252, e189_279, e189_283, e189_288, e189_293, e189_300, t2, t3, t4, q13, t187_if, k12, zn0, List.cons_append, List.nil_append, t5, zpre, ite_self, Nat.reduceAdd, zs1, zs2, zs3, zI_eqb, and_self, not_true_eq_false, if_true, if_false, ite_true, ite_false, not_false_eq_true, zBP, zBZ, zisO, zisA, zlen, decide_true, decide_false, Bool.and_self, Bool.and_true, Bool.true_and, cond_true, cond_false, zBG, zBR, zBU, zBV, zinb_n, zix_n, zlA, zlB, zlM, zlN, zlX, zlI, nI_add, Nat.add_eq_zero_iff, false_and, and_false, and_true, true_and, true_or, or_true, false_or, or_false, zbool_i, zb0, zb1, zshp_0, zcs_eq, zcs_n, zcs_cs, zup_g, zup_n, zg_srock2, zg_stug2, zg_ssun, zg_ssun0, zg_srock, zg_srock0, zg_stug, zg_stug0, zg_sord, zg_sord0, zg_srep, zg_srep0, zg_scla, zg_scla0, zg_scon, zg_scon0, zg_swin, zg_swin0, zg_sleg, zg_sleg0, zg_spro, zg_sstp, zg_swrd, zu_srock2, zu_stug2, zu_ssun, zu_ssun0, zu_srock, zu_srock0, zu_stug, zu_stug0, zu_sord, zu_sord0, zu_srep, zu_srep0, zu_scla, zu_scla0, zu_scon, zu_scon0, zu_swin, zu_swin0, zu_sleg, zu_sleg0, zu_spro, zu_sstp, zu_swrd]
  exact ⟨_, (H_s d L p0 p2 r2 r3 s4 C _ hk hC hsm hr).trans (H_bad d L p0 p2 r2 r3 s4 _ b5.1), b5⟩
theorem O_if5 (L p0 p2 r2 r3 s4 : Nat) (T : Nat → Nat) (n : Nat) (x : zLx) (be N j : Nat) (hk : zTk T n x) (hV : zV T x = zWK 12) (hx5 : (zadv T n x).2.2 = 5) : zPf L p0 p2 r2 r3 s4 T n x be N j (zadv T n x) := by
  have hkind := zV_1 (by omega) hV
  have ha := zadv_k T n x hk.2.1
  have hlt := hk.2.2.2.2.1 (by rw [hkind]; decide)
  intro d C t B sm hbe hC hsm
  obtain ⟨hM, h13, h14, h15, h18, hB, hbk, h19, hx⟩ := id hC
  have h120 := hM.1.2.1
  have hn := hk.2.1
  have h1' := hk.1
  have hm5 := zMS_5 hC
  have t1 := M189_n d L p0 p2 r2 r3 s4 C hM hk h14 h15 (by rw [hV]; rfl)
  have p1 := zc1_M (t := t) hM
  have n1 := zm5_c1 hm5
  have k0 : ¬ lg_cmp (zlw T x) (Int64.ofNat 985) = 0 := fun q => by have := (zlw_eq (T := T) hk (k := 985) (by decide) (by decide)).mp q; rw [hV] at this; exact absurd this (by decide)
  have k1 : ¬ lg_cmp (zlw T x) (Int64.ofNat 55175) = 0 := fun q => by have := (zlw_eq (T := T) hk (k := 55175) (by decide) (by decide)).mp q; rw [hV] at this; exact absurd this (by decide)
  have k11 : ¬ lg_cmp (zlw T x) (Int64.ofNat 11450658) = 0 := fun q => by have := (zlw_eq (T := T) hk (k := 11450658) (by decide) (by decide)).mp q; rw [hV] at this; exact absurd this (by decide)
  have k12 : (lg_cmp (zlw T x) (Int64.ofNat 249) = 0) = True := eq_true ((zlw_eq (T := T) hk (k := 249) (by decide) (by decide)).mpr hV)
  obtain ⟨F, t2, f2, f3⟩ := M180 (d + 4) L p0 p2 r2 r3 s4 (zc1 C t) p1 hk.2.1 (by rw [hkind]; decide)
  have n2 := zm5_4 n1 f3
  have fr2 : zFS N j C (zcs (zc1 C t) 401 F) := zFS_t zc1_F (zFS_M f3) (Nat.le_refl _) (Nat.le_refl _)
  obtain ⟨C2, hC2⟩ : ∃ C2, C2 = zcs (zc1 C t) 401 F := ⟨_, rfl⟩
  rcases f2 with ⟨e5, _⟩ | ⟨_, f4, f5, f6, f7, f8⟩
  case inl => exact absurd hx5 e5
  have b2 : zBm C C2 (zadv T n x).1 := ⟨by rw [hC2, zcs_eq]; exact f4, by rw [hC2, zcs_eq]; exact f5, by rw [hC2]; exact zFS_w fr2 (Nat.zero_le _) (Nat.zero_le _)⟩
  have b13 : C2 401 0 13 = nI N := by rw [hC2]; exact n2.1
  rw [← hC2] at t2
  rw [← hC2] at n2
  have q13 := n2.1
  have t3 := M185 (d + 6) L p0 p2 r2 r3 s4 C2 (N := N) (by omega) n2.1 13 (nI j) 0 0
  obtain ⟨C3, hC3⟩ : ∃ C3, C3 = zsp C2 N 13 (nI j) 0 0 := ⟨_, rfl⟩
  rw [← hC3] at t3
  have h103 : C3 401 0 10 = 1 := by rw [hC3, zsp_f (by decide)]; exact b2.1
  obtain ⟨C4, t4, g4, ff4⟩ := MX_b d L p0 p2 r2 r3 s4 C3 h103
  have b3 : zBm C C3 (zadv T n x).1 := by rw [hC3]; exact zBm_sp b2
  have b5 : zBm C (zcs C4 405 (zup (C4 405) 0 (4 * N + 2) (C4 401 0 14))) (zadv T n x).1 := ⟨by rw [zcs_n _ _ (by decide), ff4 10 (by decide) (by decide) (by decide)]; exact b3.1, by rw [zcs_n _ _ (by decide), ff4 9 (by decide) (by decide) (by decide)]; exact b3.2.1, zFS_t b3.2.2 ⟨fun g a b _ _ _ _ => by rw [zcs_n _ _ b]; exact g4 g a, fun f _ _ _ _ _ _ _ _ _ _ a b c => by rw [zcs_n _ _ (by decide)]; exact ff4 f a b c, fun i hi => absurd hi (by omega), fun i hi => absurd hi (by omega)⟩ (Nat.le_refl _) (Nat.le_refl _)⟩
  have t5 := M188_b (d + 6) L p0 p2 r2 r3 s4 _ b5.1 0 (nI N)
  have hr : zR (d + 7) 189 0 [.ref 201, zmk, zmk, zmk, zmk, zmk] [] (zZ L, zI C, zPd p0 p2 r2 r3 s4) = some (none, (zZ L, zI (zcs C4 405 (zup (C4 405) 0 (4 * N + 2) (C4 401 0 14))), zPd p0 p2 r2 r3 s4)) := by
    rw [t1]
    unfold l89
    simp +decide (disch := omega) only [e189_51, e189_63, e189_85, e189_98, e189_153, e189_167, e189_195, e189_206, t187_aim, t187_burn, t187_until, t187_if, k0, k1, k11, k12, e189_228, e189_232, e189_248, e189_252, e189_279, e189_283, e189_288, e189_293, e189_300, t2, t3, t4, q13, t187_if, k12, zn0, List.cons_append, List.nil_append, t5, zpre, ite_self, Nat.reduceAdd, zs1, zs2, zs3, zI_eqb, and_self, not_true_eq_false, if_true, if_false, ite_true, ite_false, not_false_eq_true, zBP, zBZ, zisO, zisA, zlen, decide_true, decide_false, Bool.and_self, Bool.and_true, Bool.true_and, cond_true, cond_false, zBG, zBR, zBU, zBV, zinb_n, zix_n, zlA, zlB, zlM, zlN, zlX, zlI, nI_add, Nat.add_eq_zero_iff, false_and, and_false, and_true, true_and, true_or, or_true, false_or, or_false, zbool_i, zb0, zb1, zshp_0, zcs_eq, zcs_n, zcs_cs, zup_g, zup_n, zg_srock2, zg_stug2, zg_ssun, zg_ssun0, zg_srock, zg_srock0, zg_stug, zg_stug0, zg_sord, zg_sord0, zg_srep, zg_srep0, zg_scla, zg_scla0, zg_scon, zg_scon0, zg_swin, zg_swin0, zg_sleg, zg_sleg0, zg_spro, zg_sstp, zg_swrd, zu_srock2, zu_stug2, zu_ssun, zu_ssun0, zu_srock, zu_srock0, zu_stug, zu_stug0, zu_sord, zu_sord0, zu_srep, zu_srep0, zu_scla, zu_scla0, zu_scon, zu_scon0, zu_swin, zu_swin0, zu_sleg, zu_sleg0, zu_spro, zu_sstp, zu_swrd]
  exact ⟨_, (H_s d L p0 p2 r2 r3 s4 C _ hk hC hsm hr).trans (H_bad d L p0 p2 r2 r3 s4 _ b5.1), b5⟩

theorem O_ifn (L p0 p2 r2 r3 s4 : Nat) (T : Nat → Nat) (n : Nat) (x : zLx) (be N j : Nat) (hk : zTk T n x) (hV : zV T x = zWK 12) (hx5 : (zadv T n x).2.2 ≠ 5) {ws : List (Int32 × Int32)} {x2 : zLx} (hk2 : zTk T n x2) (hq : zQt L p0 p2 r2 r3 s4 T n 0 (zadv T n x) 0 0 ws x2) (hns : zns_ T 1 x2) (hno : ¬ zisg T x2 123 ∨ be = 4) : zPf L p0 p2 r2 r3 s4 T n x be N j x2 := by
  have hkind := zV_1 (by omega) hV
  have ha := zadv_k T n x hk.2.1
  have hlt := hk.2.2.2.2.1 (by rw [hkind]; decide)
  intro d C t B sm hbe hC hsm
  obtain ⟨hM, h13, h14, h15, h18, hB, hbk, h19, hx⟩ := id hC
  have h120 := hM.1.2.1
  have hn := hk.2.1
  have h1' := hk.1
  have hm5 := zMS_5 hC
  have t1 := M189_n d L p0 p2 r2 r3 s4 C hM hk h14 h15 (by rw [hV]; rfl)
  have p1 := zc1_M (t := t) hM
  have n1 := zm5_c1 hm5
  have k0 : ¬ lg_cmp (zlw T x) (Int64.ofNat 985) = 0 := fun q => by have := (zlw_eq (T := T) hk (k := 985) (by decide) (by decide)).mp q; rw [hV] at this; exact absurd this (by decide)
  have k1 : ¬ lg_cmp (zlw T x) (Int64.ofNat 55175) = 0 := fun q => by have := (zlw_eq (T := T) hk (k := 55175) (by decide) (by decide)).mp q; rw [hV] at this; exact absurd this (by decide)
  have k11 : ¬ lg_cmp (zlw T x) (Int64.ofNat 11450658) = 0 := fun q => by have := (zlw_eq (T := T) hk (k := 11450658) (by decide) (by decide)).mp q; rw [hV] at this; exact absurd this (by decide)
  have k12 : (lg_cmp (zlw T x) (Int64.ofNat 249) = 0) = True := eq_true ((zlw_eq (T := T) hk (k := 249) (by decide) (by decide)).mpr hV)
  obtain ⟨F, t2, f2, f3⟩ := M180 (d + 4) L p0 p2 r2 r3 s4 (zc1 C t) p1 hk.2.1 (by rw [hkind]; decide)
  have n2 := zm5_4 n1 f3
  have fr2 : zFS N j C (zcs (zc1 C t) 401 F) := zFS_t zc1_F (zFS_M f3) (Nat.le_refl _) (Nat.le_refl _)
  obtain ⟨C2, hC2⟩ : ∃ C2, C2 = zcs (zc1 C t) 401 F := ⟨_, rfl⟩
  rcases f2 with ⟨e5, f2⟩ | ⟨e5, _⟩
  case inr => exact absurd e5 hx5
  rw [← hC2] at t2 f2 n2 fr2
  have q13 := n2.1
  have t3 := M185 (d + 6) L p0 p2 r2 r3 s4 C2 (N := N) (by omega) n2.1 13 (nI j) 0 0
  obtain ⟨C3, hC3⟩ : ∃ C3, C3 = zsp C2 N 13 (nI j) 0 0 := ⟨_, rfl⟩
  rw [← hC3] at t3
  have n3 : zm5 C3 (N + 1) j (t + 1) B 1 := by rw [hC3]; exact zm5_sp n2
  have p3 : zPM T n C3 (zadv T n x) := by rw [hC3]; exact zPM_sp f2
  have fr3 : zFS N j C C3 := zFS_t fr2 (by rw [hC3]; exact zFS_st) (Nat.le_refl _) (Nat.le_refl _)
  rcases MX_t d L p0 p2 r2 r3 s4 C3 p3 n3.2.1 (by omega) (by have := ha.1.1; have := ha.1.2.1; omega) hk2 hq hns with ⟨zb, C4, t4, b4⟩ | ⟨e6, C4, t4, m3, m14, mw, mf⟩
  · skip
    have b5 : zBm C (zcs C4 405 (zup (C4 405) 0 (4 * N + 2) (C4 401 0 14))) x2.1 := ⟨by rw [zcs_n _ _ (by decide)]; exact b4.1, by rw [zcs_n _ _ (by decide)]; exact b4.2.1, zFS_t (zFS_w fr3 (Nat.zero_le _) (Nat.zero_le _)) (zFS_t (zBm_d b4).2.2 ⟨fun g a b _ _ _ _ => by rw [zcs_n _ _ b], fun f _ _ _ _ _ _ _ _ _ _ _ _ _ => by rw [zcs_n _ _ (by decide)], fun i hi => absurd hi (by omega), fun i hi => absurd hi (by omega)⟩ (Nat.le_refl _) (Nat.le_refl _)) (Nat.le_refl _) (Nat.le_refl _)⟩
    have t5 := M188_b (d + 6) L p0 p2 r2 r3 s4 _ b5.1 0 (nI N)
    have hr : zR (d + 7) 189 0 [.ref 201, zmk, zmk, zmk, zmk, zmk] [] (zZ L, zI C, zPd p0 p2 r2 r3 s4) = some (none, (zZ L, zI (zcs C4 405 (zup (C4 405) 0 (4 * N + 2) (C4 401 0 14))), zPd p0 p2 r2 r3 s4)) := by
      rw [t1]
      unfold l89
      simp +decide (disch := omega) only [e189_51, e189_63, e189_85, e189_98, e189_153, e189_167, e189_195, e189_206, t187_aim, t187_burn, t187_until, t187_if, k0, k1, k11, k12, e189_228, e189_232, e189_248, e189_252, e189_279, e189_283, e189_288, e189_293, e189_300, t2, t3, t4, q13, t187_if, k12, zn0, List.cons_append, List.nil_append, t5, zpre, ite_self, Nat.reduceAdd, zs1, zs2, zs3, zI_eqb, and_self, not_true_eq_false, if_true, if_false, ite_true, ite_false, not_false_eq_true, zBP, zBZ, zisO, zisA, zlen, decide_true, decide_false, Bool.and_self, Bool.and_true, Bool.true_and, cond_true, cond_false, zBG, zBR, zBU, zBV, zinb_n, zix_n, zlA, zlB, zlM, zlN, zlX, zlI, nI_add, Nat.add_eq_zero_iff, false_and, and_false, and_true, true_and, true_or, or_true, false_or, or_false, zbool_i, zb0, zb1, zshp_0, zcs_eq, zcs_n, zcs_cs, zup_g, zup_n, zg_srock2, zg_stug2, zg_ssun, zg_ssun0, zg_srock, zg_srock0, zg_stug, zg_stug0, zg_sord, zg_sord0, zg_srep, zg_srep0, zg_scla, zg_scla0, zg_scon, zg_scon0, zg_swin, zg_swin0, zg_sleg, zg_sleg0, zg_spro, zg_sstp, zg_swrd, zu_srock2, zu_stug2, zu_ssun, zu_ssun0, zu_srock, zu_srock0, zu_stug, zu_stug0, zu_sord, zu_sord0, zu_srep, zu_srep0, zu_scla, zu_scla0, zu_scon, zu_scon0, zu_swin, zu_swin0, zu_sleg, zu_sleg0, zu_spro, zu_sstp, zu_swrd]
    exact ⟨_, (H_s d L p0 p2 r2 r3 s4 C _ hk hC hsm hr).trans (H_bad d L p0 p2 r2 r3 s4 _ b5.1), b5⟩
  · skip
    have n5 : zm5 (zcs C4 405 (zup (C4 405) 0 (4 * N + 2) (nI (j + ws.length)))) (N + 1) (j + ws.length) (t + 1) B 1 := by
      have n4 := zm5_E n3 mf m14
      unfold zm5 at *
      rw [zcs_n _ _ (by decide), zcs_n _ _ (by decide), zcs_n _ _ (by decide)]
      exact n4
    have p5 : zPM T n (zcs C4 405 (zup (C4 405) 0 (4 * N + 2) (nI (j + ws.length)))) x2 := by
      unfold zPM zMT at *
      rw [zcs_n _ _ (by decide), zcs_n _ _ (by decide)]
      exact m3
    obtain ⟨C5, hC5⟩ : ∃ C5, C5 = (zcs C4 405 (zup (C4 405) 0 (4 * N + 2) (nI (j + ws.length)))) := ⟨_, rfl⟩
    rw [← hC5] at n5 p5
    have f405 : C4 405 = C3 405 := mf.1 405 (by decide) (by decide) (by decide)
    have fr5 : zFS N j C C5 := by
      rw [hC5]
      refine zFS_t (zFS_t fr3 (zFS_E mf) (Nat.le_refl _) (Nat.le_refl _)) ⟨fun g a b _ _ _ _ => by rw [zcs_n _ _ b], fun f _ _ _ _ _ _ _ _ _ _ _ _ _ => by rw [zcs_n _ _ (by decide)], fun i hi => by rw [zcs_eq, zup_n _ _ (by omega)], fun i _ => by rw [zcs_n _ _ (by decide)]⟩ (Nat.le_refl _) (Nat.le_refl _)
    have c405 : C5 405 0 (4 * N) = 13 ∧ C5 405 0 (4 * N + 1) = nI j ∧ C5 405 0 (4 * N + 2) = nI (j + ws.length) := by
      rw [hC5, zcs_eq, f405, hC3]
      refine ⟨by rw [zup_n _ _ (by omega)]; exact zsp_s.1, by rw [zup_n _ _ (by omega)]; exact zsp_s.2.1, by rw [zup_g]⟩
    have w5 : zmr (C5 406 0) j ws := by rw [hC5, zcs_n _ _ (by decide)]; exact mw
    have t5 := M188_n d L p0 p2 r2 r3 s4 C5 0 (nI N) p5 hk2 n5 (by rw [hbe]; exact hno)
    rw [hC5] at t5
    have hr : zR (d + 7) 189 0 [.ref 201, zmk, zmk, zmk, zmk, zmk] [] (zZ L, zI C, zPd p0 p2 r2 r3 s4) = some (none, (zZ L, zI (zcs (zcs C4 405 (zup (C4 405) 0 (4 * N + 2) (nI (j + ws.length)))) 401 (zup (zup ((zcs C4 405 (zup (C4 405) 0 (4 * N + 2) (nI (j + ws.length)))) 401) 0 9 (nI x2.1)) 0 10 1)), zPd p0 p2 r2 r3 s4)) := by
      rw [t1]
      unfold l89
      simp +decide (disch := omega) only [e189_51, e189_63, e189_85, e189_98, e189_153, e189_167, e189_195, e189_206, t187_aim, t187_burn, t187_until, t187_if, k0, k1, k11, k12, e189_228, e189_232, e189_248, e189_252, e189_279, e189_283, e189_288, e189_293, e189_300, t2, t3, t4, q13, t187_if, k12, zn0, List.cons_append, List.nil_append, m14, t5, zpre, ite_self, Nat.reduceAdd, zs1, zs2, zs3, zI_eqb, and_self, not_true_eq_false, if_true, if_false, ite_true, ite_false, not_false_eq_true, zBP, zBZ, zisO, zisA, zlen, decide_true, decide_false, Bool.and_self, Bool.and_true, Bool.true_and, cond_true, cond_false, zBG, zBR, zBU, zBV, zinb_n, zix_n, zlA, zlB, zlM, zlN, zlX, zlI, nI_add, Nat.add_eq_zero_iff, false_and, and_false, and_true, true_and, true_or, or_true, false_or, or_false, zbool_i, zb0, zb1, zshp_0, zcs_eq, zcs_n, zcs_cs, zup_g, zup_n, zg_srock2, zg_stug2, zg_ssun, zg_ssun0, zg_srock, zg_srock0, zg_stug, zg_stug0, zg_sord, zg_sord0, zg_srep, zg_srep0, zg_scla, zg_scla0, zg_scon, zg_scon0, zg_swin, zg_swin0, zg_sleg, zg_sleg0, zg_spro, zg_sstp, zg_swrd, zu_srock2, zu_stug2, zu_ssun, zu_ssun0, zu_srock, zu_srock0, zu_stug, zu_stug0, zu_sord, zu_sord0, zu_srep, zu_srep0, zu_scla, zu_scla0, zu_scon, zu_scon0, zu_swin, zu_swin0, zu_sleg, zu_sleg0, zu_spro, zu_sstp, zu_swrd]
    rw [← hC5] at hr
    have b6 : zBm C (zcs C5 401 (zup (zup (C5 401) 0 9 (nI x2.1)) 0 10 1)) x2.1 := zBm_t fr5 (zbm_wr (T := T) (n := n) p5.2.2.1)
    exact ⟨_, (H_s d L p0 p2 r2 r3 s4 C _ hk hC hsm hr).trans (H_bad d L p0 p2 r2 r3 s4 _ b6.1), b6⟩
/-- the beginning of an S with a block -/
theorem O_ift (L p0 p2 r2 r3 s4 : Nat) (T : Nat → Nat) (n : Nat) (x : zLx) (be N j : Nat) (hk : zTk T n x) (hV : zV T x = zWK 12) (hx5 : (zadv T n x).2.2 ≠ 5) {ws : List (Int32 × Int32)} {x2 : zLx} (hk2 : zTk T n x2) (hroom : (zadv T n x).1 + ws.length ≤ x2.1) (hq : zQt L p0 p2 r2 r3 s4 T n 0 (zadv T n x) 0 0 ws x2) (hns : zns_ T 1 x2) (h123 : zisg T x2 123) (hbe4 : be < 4) (d : Nat) (C : zCt) (t : Nat) (B : List (Nat × Nat)) (sm : Int32) (hbe : B.length = be) (hC : zMS T n C x N j t B sm) (hsm : sm = 0 ∨ (sm = 1 ∧ x.2.2 ≠ 0 ∧ ¬ zisg T x 125)) : ∃ C', zR (d + 8) 179 46 [.ref 201, .int 1] [] (zZ L, zI C, zPd p0 p2 r2 r3 s4) = zR (d + 8) 179 46 [.ref 201, .int 1] [] (zZ L, zI C', zPd p0 p2 r2 r3 s4) ∧ zMS T n C' (zadv T n x2) (N + 1) (j + ws.length) (t + 1) ((0, N) :: B) 0 ∧ zFS N j C C' ∧ (C' 405 0 (4 * N) = 13 ∧ C' 405 0 (4 * N + 1) = nI j ∧ C' 405 0 (4 * N + 2) = nI (j + ws.length)) ∧ zmr (C' 406 0) j ws := by
  have hkind := zV_1 (by omega) hV
  have ha := zadv_k T n x hk.2.1
  have hlt := hk.2.2.2.2.1 (by rw [hkind]; decide)
  obtain ⟨hM, h13, h14, h15, h18, hB, hbk, h19, hx⟩ := id hC
  have h120 := hM.1.2.1
  have hn := hk.2.1
  have h1' := hk.1
  have hm5 := zMS_5 hC
  have t1 := M189_n d L p0 p2 r2 r3 s4 C hM hk h14 h15 (by rw [hV]; rfl)
  have p1 := zc1_M (t := t) hM
  have n1 := zm5_c1 hm5
  have k0 : ¬ lg_cmp (zlw T x) (Int64.ofNat 985) = 0 := fun q => by have := (zlw_eq (T := T) hk (k := 985) (by decide) (by decide)).mp q; rw [hV] at this; exact absurd this (by decide)
  have k1 : ¬ lg_cmp (zlw T x) (Int64.ofNat 55175) = 0 := fun q => by have := (zlw_eq (T := T) hk (k := 55175) (by decide) (by decide)).mp q; rw [hV] at this; exact absurd this (by decide)
  have k11 : ¬ lg_cmp (zlw T x) (Int64.ofNat 11450658) = 0 := fun q => by have := (zlw_eq (T := T) hk (k := 11450658) (by decide) (by decide)).mp q; rw [hV] at this; exact absurd this (by decide)
  have k12 : (lg_cmp (zlw T x) (Int64.ofNat 249) = 0) = True := eq_true ((zlw_eq (T := T) hk (k := 249) (by decide) (by decide)).mpr hV)
  obtain ⟨F, t2, f2, f3⟩ := M180 (d + 4) L p0 p2 r2 r3 s4 (zc1 C t) p1 hk.2.1 (by rw [hkind]; decide)
  have n2 := zm5_4 n1 f3
  have fr2 : zFS N j C (zcs (zc1 C t) 401 F) := zFS_t zc1_F (zFS_M f3) (Nat.le_refl _) (Nat.le_refl _)
  obtain ⟨C2, hC2⟩ : ∃ C2, C2 = zcs (zc1 C t) 401 F := ⟨_, rfl⟩
  rcases f2 with ⟨e5, f2⟩ | ⟨e5, _⟩
  case inr => exact absurd e5 hx5
  rw [← hC2] at t2 f2 n2 fr2
  have q13 := n2.1
  have t3 := M185 (d + 6) L p0 p2 r2 r3 s4 C2 (N := N) (by omega) n2.1 13 (nI j) 0 0
  obtain ⟨C3, hC3⟩ : ∃ C3, C3 = zsp C2 N 13 (nI j) 0 0 := ⟨_, rfl⟩
  rw [← hC3] at t3
  have n3 : zm5 C3 (N + 1) j (t + 1) B 1 := by rw [hC3]; exact zm5_sp n2
  have p3 : zPM T n C3 (zadv T n x) := by rw [hC3]; exact zPM_sp f2
  have fr3 : zFS N j C C3 := zFS_t fr2 (by rw [hC3]; exact zFS_st) (Nat.le_refl _) (Nat.le_refl _)
  rcases MX_t d L p0 p2 r2 r3 s4 C3 p3 n3.2.1 (by omega) (by have := ha.1.1; have := ha.1.2.1; omega) hk2 hq hns with ⟨zb, _⟩ | ⟨e6, C4, t4, m3, m14, mw, mf⟩
  · exfalso
    rcases zb with q | q
    · rw [h123.1] at q; exact absurd q (by decide)
    · unfold zsgn at q
      rw [if_pos h123.1, h123.2] at q
      exact absurd q (by decide)
  have n5 : zm5 (zcs C4 405 (zup (C4 405) 0 (4 * N + 2) (nI (j + ws.length)))) (N + 1) (j + ws.length) (t + 1) B 1 := by
    have n4 := zm5_E n3 mf m14
    unfold zm5 at *
    rw [zcs_n _ _ (by decide), zcs_n _ _ (by decide), zcs_n _ _ (by decide)]
    exact n4
  have p5 : zPM T n (zcs C4 405 (zup (C4 405) 0 (4 * N + 2) (nI (j + ws.length)))) x2 := by
    unfold zPM zMT at *
    rw [zcs_n _ _ (by decide), zcs_n _ _ (by decide)]
    exact m3
  obtain ⟨C5, hC5⟩ : ∃ C5, C5 = (zcs C4 405 (zup (C4 405) 0 (4 * N + 2) (nI (j + ws.length)))) := ⟨_, rfl⟩
  rw [← hC5] at n5 p5
  have f405 : C4 405 = C3 405 := mf.1 405 (by decide) (by decide) (by decide)
  have fr5 : zFS N j C C5 := by
    rw [hC5]
    refine zFS_t (zFS_t fr3 (zFS_E mf) (Nat.le_refl _) (Nat.le_refl _)) ⟨fun g a b _ _ _ _ => by rw [zcs_n _ _ b], fun f _ _ _ _ _ _ _ _ _ _ _ _ _ => by rw [zcs_n _ _ (by decide)], fun i hi => by rw [zcs_eq, zup_n _ _ (by omega)], fun i _ => by rw [zcs_n _ _ (by decide)]⟩ (Nat.le_refl _) (Nat.le_refl _)
  have c405 : C5 405 0 (4 * N) = 13 ∧ C5 405 0 (4 * N + 1) = nI j ∧ C5 405 0 (4 * N + 2) = nI (j + ws.length) := by
    rw [hC5, zcs_eq, f405, hC3]
    refine ⟨by rw [zup_n _ _ (by omega)]; exact zsp_s.1, by rw [zup_n _ _ (by omega)]; exact zsp_s.2.1, by rw [zup_g]⟩
  have w5 : zmr (C5 406 0) j ws := by rw [hC5, zcs_n _ _ (by decide)]; exact mw
  have ha2 := zadv_k T n x2 hk2.2.1
  have hlt2 := hk2.2.2.2.2.1 (by rw [h123.1]; decide)
  obtain ⟨C6, t5, p6, n6, fr6, g5, g6⟩ := M188_t d L p0 p2 r2 r3 s4 C5 (wh := 0) (at_ := N) p5 hk2 n5 h123 (by omega)
  refine ⟨C6, H_s d L p0 p2 r2 r3 s4 C _ hk hC hsm ?_, zMS_of p6 n6 (by omega), zFS_t fr5 (fr6 N j) (Nat.le_refl _) (Nat.le_refl _), by rw [g5]; exact c405, by rw [g6]; exact w5⟩
  rw [hC5, show nI 0 = 0 from rfl] at t5
  rw [t1]
  unfold l89
  simp +decide (disch := omega) only [e189_51, e189_63, e189_85, e189_98, e189_153, e189_167, e189_195, e189_206, t187_aim, t187_burn, t187_until, t187_if, k0, k1, k11, k12, e189_228, e189_232, e189_248, e189_252, e189_279, e189_283, e189_288, e189_293, e189_300, t2, t3, t4, q13, t187_if, k12, zn0, List.cons_append, List.nil_append, m14, t5, zpre, ite_self, Nat.reduceAdd, zs1, zs2, zs3, zI_eqb, and_self, not_true_eq_false, if_true, if_false, ite_true, ite_false, not_false_eq_true, zBP, zBZ, zisO, zisA, zlen, decide_true, decide_false, Bool.and_self, Bool.and_true, Bool.true_and, cond_true, cond_false, zBG, zBR, zBU, zBV, zinb_n, zix_n, zlA, zlB, zlM, zlN, zlX, zlI, nI_add, Nat.add_eq_zero_iff, false_and, and_false, and_true, true_and, true_or, or_true, false_or, or_false, zbool_i, zb0, zb1, zshp_0, zcs_eq, zcs_n, zcs_cs, zup_g, zup_n, zg_srock2, zg_stug2, zg_ssun, zg_ssun0, zg_srock, zg_srock0, zg_stug, zg_stug0, zg_sord, zg_sord0, zg_srep, zg_srep0, zg_scla, zg_scla0, zg_scon, zg_scon0, zg_swin, zg_swin0, zg_sleg, zg_sleg0, zg_spro, zg_sstp, zg_swrd, zu_srock2, zu_stug2, zu_ssun, zu_ssun0, zu_srock, zu_srock0, zu_stug, zu_stug0, zu_sord, zu_sord0, zu_srep, zu_srep0, zu_scla, zu_scla0, zu_scon, zu_scon0, zu_swin, zu_swin0, zu_sleg, zu_sleg0, zu_spro, zu_sstp, zu_swrd]

theorem O_whilef (L p0 p2 r2 r3 s4 : Nat) (T : Nat → Nat) (n : Nat) (x : zLx) (be N j : Nat) (hk : zTk T n x) (hV : zV T x = zWK 13) (hx5 : (zadv T n x).2.2 ≠ 5) {x2 : zLx} (hq : zQf L p0 p2 r2 r3 s4 T n 0 (zadv T n x) 0 0 x2) : zPf L p0 p2 r2 r3 s4 T n x be N j x2 := by
  have hkind := zV_1 (by omega) hV
  have ha := zadv_k T n x hk.2.1
  have hlt := hk.2.2.2.2.1 (by rw [hkind]; decide)
  intro d C t B sm hbe hC hsm
  obtain ⟨hM, h13, h14, h15, h18, hB, hbk, h19, hx⟩ := id hC
  have h120 := hM.1.2.1
  have hn := hk.2.1
  have h1' := hk.1
  have hm5 := zMS_5 hC
  have t1 := M189_n d L p0 p2 r2 r3 s4 C hM hk h14 h15 (by rw [hV]; rfl)
  have p1 := zc1_M (t := t) hM
  have n1 := zm5_c1 hm5
  have k0 : ¬ lg_cmp (zlw T x) (Int64.ofNat 985) = 0 := fun q => by have := (zlw_eq (T := T) hk (k := 985) (by decide) (by decide)).mp q; rw [hV] at this; exact absurd this (by decide)
  have k1 : ¬ lg_cmp (zlw T x) (Int64.ofNat 55175) = 0 := fun q => by have := (zlw_eq (T := T) hk (k := 55175) (by decide) (by decide)).mp q; rw [hV] at this; exact absurd this (by decide)
  have k11 : ¬ lg_cmp (zlw T x) (Int64.ofNat 11450658) = 0 := fun q => by have := (zlw_eq (T := T) hk (k := 11450658) (by decide) (by decide)).mp q; rw [hV] at this; exact absurd this (by decide)
  have k12 : ¬ lg_cmp (zlw T x) (Int64.ofNat 249) = 0 := fun q => by have := (zlw_eq (T := T) hk (k := 249) (by decide) (by decide)).mp q; rw [hV] at this; exact absurd this (by decide)
  have k13 : (lg_cmp (zlw T x) (Int64.ofNat 12387497) = 0) = True := eq_true ((zlw_eq (T := T) hk (k := 12387497) (by decide) (by decide)).mpr hV)
  obtain ⟨F, t2, f2, f3⟩ := M180 (d + 4) L p0 p2 r2 r3 s4 (zc1 C t) p1 hk.2.1 (by rw [hkind]; decide)
  have n2 := zm5_4 n1 f3
  have fr2 : zFS N j C (zcs (zc1 C t) 401 F) := zFS_t zc1_F (zFS_M f3) (Nat.le_refl _) (Nat.le_refl _)
  obtain ⟨C2, hC2⟩ : ∃ C2, C2 = zcs (zc1 C t) 401 F := ⟨_, rfl⟩
  rcases f2 with ⟨e5, f2⟩ | ⟨e5, _⟩
  case inr => exact absurd e5 hx5
  rw [← hC2] at t2 f2 n2 fr2
  have q13 := n2.1
  have t3 := M185 (d + 6) L p0 p2 r2 r3 s4 C2 (N := N) (by omega) n2.1 13 (nI j) 0 0
  obtain ⟨C3, hC3⟩ : ∃ C3, C3 = zsp C2 N 13 (nI j) 0 0 := ⟨_, rfl⟩
  rw [← hC3] at t3
  have n3 : zm5 C3 (N + 1) j (t + 1) B 1 := by rw [hC3]; exact zm5_sp n2
  have p3 : zPM T n C3 (zadv T n x) := by rw [hC3]; exact zPM_sp f2
  have fr3 : zFS N j C C3 := zFS_t fr2 (by rw [hC3]; exact zFS_st) (Nat.le_refl _) (Nat.le_refl _)
  obtain ⟨C4, t4, b4⟩ := MX_f d L p0 p2 r2 r3 s4 C3 p3 n3.2.1 (by omega) (by have := ha.1.1; have := ha.1.2.1; omega) hq
  have b5 : zBm C (zcs C4 405 (zup (C4 405) 0 (4 * N + 2) (C4 401 0 14))) x2.1 := ⟨by rw [zcs_n _ _ (by decide)]; exact b4.1, by rw [zcs_n _ _ (by decide)]; exact b4.2.1, zFS_t (zFS_w fr3 (Nat.zero_le _) (Nat.zero_le _)) (zFS_t (zBm_d b4).2.2 ⟨fun g a b _ _ _ _ => by rw [zcs_n _ _ b], fun f _ _ _ _ _ _ _ _ _ _ _ _ _ => by rw [zcs_n _ _ (by decide)], fun i hi => absurd hi (by omega), fun i hi => absurd hi (by omega)⟩ (Nat.le_refl _) (Nat.le_refl _)) (Nat.le_refl _) (Nat.le_refl _)⟩
  have t5 := M188_b (d + 6) L p0 p2 r2 r3 s4 _ b5.1 2 (nI N)
  have hr : zR (d + 7) 189 0 [.ref 201, zmk, zmk, zmk, zmk, zmk] [] (zZ L, zI C, zPd p0 p2 r2 r3 s4) = some (none, (zZ L, zI (zcs C4 405 (zup (C4 405) 0 (4 * N + 2) (C4 401 0 14))), zPd p0 p2 r2 r3 s4)) := by
    rw [t1]
    unfold l89
    simp +decide (disch := omega) only [e189_51, e189_63, e189_85, e189_98, e189_153, e189_167, e189_195, e189_206, e189_210, e189_224, t187_aim, t187_burn, t187_until, t187_if, t187_while, k0, k1, k11, k12, k13, e189_228, e189_232, e189_248, e189_252, e189_279, e189_287, e189_288, e189_293, e189_300, t2, t3, t4, q13, t187_if, k12, zn0, List.cons_append, List.nil_append, t5, zpre, ite_self, Nat.reduceAdd, zs1, zs2, zs3, zI_eqb, and_self, not_true_eq_false, if_true, if_false, ite_true, ite_false, not_false_eq_true, zBP, zBZ, zisO, zisA, zlen, decide_true, decide_false, Bool.and_self, Bool.and_true, Bool.true_and, cond_true, cond_false, zBG, zBR, zBU, zBV, zinb_n, zix_n, zlA, zlB, zlM, zlN, zlX, zlI, nI_add, Nat.add_eq_zero_iff, false_and, and_false, and_true, true_and, true_or, or_true, false_or, or_false, zbool_i, zb0, zb1, zshp_0, zcs_eq, zcs_n, zcs_cs, zup_g, zup_n, zg_srock2, zg_stug2, zg_ssun, zg_ssun0, zg_srock, zg_srock0, zg_stug, zg_stug0, zg_sord, zg_sord0, zg_srep, zg_srep0, zg_scla, zg_scla0, zg_scon, zg_scon0, zg_swin, zg_swin0, zg_sleg, zg_sleg0, zg_spro, zg_sstp, zg_swrd, zu_srock2, zu_stug2, zu_ssun, zu_ssun0, zu_srock, zu_srock0, zu_stug, zu_stug0, zu_sord, zu_sord0, zu_srep, zu_srep0, zu_scla, zu_scla0, zu_scon, zu_scon0, zu_swin, zu_swin0, zu_sleg, zu_sleg0, zu_spro, zu_sstp, zu_swrd]
  exact ⟨_, (H_s d L p0 p2 r2 r3 s4 C _ hk hC hsm hr).trans (H_bad d L p0 p2 r2 r3 s4 _ b5.1), b5⟩
theorem O_while5 (L p0 p2 r2 r3 s4 : Nat) (T : Nat → Nat) (n : Nat) (x : zLx) (be N j : Nat) (hk : zTk T n x) (hV : zV T x = zWK 13) (hx5 : (zadv T n x).2.2 = 5) : zPf L p0 p2 r2 r3 s4 T n x be N j (zadv T n x) := by
  have hkind := zV_1 (by omega) hV
  have ha := zadv_k T n x hk.2.1
  have hlt := hk.2.2.2.2.1 (by rw [hkind]; decide)
  intro d C t B sm hbe hC hsm
  obtain ⟨hM, h13, h14, h15, h18, hB, hbk, h19, hx⟩ := id hC
  have h120 := hM.1.2.1
  have hn := hk.2.1
  have h1' := hk.1
  have hm5 := zMS_5 hC
  have t1 := M189_n d L p0 p2 r2 r3 s4 C hM hk h14 h15 (by rw [hV]; rfl)
  have p1 := zc1_M (t := t) hM
  have n1 := zm5_c1 hm5
  have k0 : ¬ lg_cmp (zlw T x) (Int64.ofNat 985) = 0 := fun q => by have := (zlw_eq (T := T) hk (k := 985) (by decide) (by decide)).mp q; rw [hV] at this; exact absurd this (by decide)
  have k1 : ¬ lg_cmp (zlw T x) (Int64.ofNat 55175) = 0 := fun q => by have := (zlw_eq (T := T) hk (k := 55175) (by decide) (by decide)).mp q; rw [hV] at this; exact absurd this (by decide)
  have k11 : ¬ lg_cmp (zlw T x) (Int64.ofNat 11450658) = 0 := fun q => by have := (zlw_eq (T := T) hk (k := 11450658) (by decide) (by decide)).mp q; rw [hV] at this; exact absurd this (by decide)
  have k12 : ¬ lg_cmp (zlw T x) (Int64.ofNat 249) = 0 := fun q => by have := (zlw_eq (T := T) hk (k := 249) (by decide) (by decide)).mp q; rw [hV] at this; exact absurd this (by decide)
  have k13 : (lg_cmp (zlw T x) (Int64.ofNat 12387497) = 0) = True := eq_true ((zlw_eq (T := T) hk (k := 12387497) (by decide) (by decide)).mpr hV)
  obtain ⟨F, t2, f2, f3⟩ := M180 (d + 4) L p0 p2 r2 r3 s4 (zc1 C t) p1 hk.2.1 (by rw [hkind]; decide)
  have n2 := zm5_4 n1 f3
  have fr2 : zFS N j C (zcs (zc1 C t) 401 F) := zFS_t zc1_F (zFS_M f3) (Nat.le_refl _) (Nat.le_refl _)
  obtain ⟨C2, hC2⟩ : ∃ C2, C2 = zcs (zc1 C t) 401 F := ⟨_, rfl⟩
  rcases f2 with ⟨e5, _⟩ | ⟨_, f4, f5, f6, f7, f8⟩
  case inl => exact absurd hx5 e5
  have b2 : zBm C C2 (zadv T n x).1 := ⟨by rw [hC2, zcs_eq]; exact f4, by rw [hC2, zcs_eq]; exact f5, by rw [hC2]; exact zFS_w fr2 (Nat.zero_le _) (Nat.zero_le _)⟩
  have b13 : C2 401 0 13 = nI N := by rw [hC2]; exact n2.1
  rw [← hC2] at t2
  rw [← hC2] at n2
  have q13 := n2.1
  have t3 := M185 (d + 6) L p0 p2 r2 r3 s4 C2 (N := N) (by omega) n2.1 13 (nI j) 0 0
  obtain ⟨C3, hC3⟩ : ∃ C3, C3 = zsp C2 N 13 (nI j) 0 0 := ⟨_, rfl⟩
  rw [← hC3] at t3
  have h103 : C3 401 0 10 = 1 := by rw [hC3, zsp_f (by decide)]; exact b2.1
  obtain ⟨C4, t4, g4, ff4⟩ := MX_b d L p0 p2 r2 r3 s4 C3 h103
  have b3 : zBm C C3 (zadv T n x).1 := by rw [hC3]; exact zBm_sp b2
  have b5 : zBm C (zcs C4 405 (zup (C4 405) 0 (4 * N + 2) (C4 401 0 14))) (zadv T n x).1 := ⟨by rw [zcs_n _ _ (by decide), ff4 10 (by decide) (by decide) (by decide)]; exact b3.1, by rw [zcs_n _ _ (by decide), ff4 9 (by decide) (by decide) (by decide)]; exact b3.2.1, zFS_t b3.2.2 ⟨fun g a b _ _ _ _ => by rw [zcs_n _ _ b]; exact g4 g a, fun f _ _ _ _ _ _ _ _ _ _ a b c => by rw [zcs_n _ _ (by decide)]; exact ff4 f a b c, fun i hi => absurd hi (by omega), fun i hi => absurd hi (by omega)⟩ (Nat.le_refl _) (Nat.le_refl _)⟩
  have t5 := M188_b (d + 6) L p0 p2 r2 r3 s4 _ b5.1 2 (nI N)
  have hr : zR (d + 7) 189 0 [.ref 201, zmk, zmk, zmk, zmk, zmk] [] (zZ L, zI C, zPd p0 p2 r2 r3 s4) = some (none, (zZ L, zI (zcs C4 405 (zup (C4 405) 0 (4 * N + 2) (C4 401 0 14))), zPd p0 p2 r2 r3 s4)) := by
    rw [t1]
    unfold l89
    simp +decide (disch := omega) only [e189_51, e189_63, e189_85, e189_98, e189_153, e189_167, e189_195, e189_206, e189_210, e189_224, t187_aim, t187_burn, t187_until, t187_if, t187_while, k0, k1, k11, k12, k13, e189_228, e189_232, e189_248, e189_252, e189_279, e189_287, e189_288, e189_293, e189_300, t2, t3, t4, q13, t187_if, k12, zn0, List.cons_append, List.nil_append, t5, zpre, ite_self, Nat.reduceAdd, zs1, zs2, zs3, zI_eqb, and_self, not_true_eq_false, if_true, if_false, ite_true, ite_false, not_false_eq_true, zBP, zBZ, zisO, zisA, zlen, decide_true, decide_false, Bool.and_self, Bool.and_true, Bool.true_and, cond_true, cond_false, zBG, zBR, zBU, zBV, zinb_n, zix_n, zlA, zlB, zlM, zlN, zlX, zlI, nI_add, Nat.add_eq_zero_iff, false_and, and_false, and_true, true_and, true_or, or_true, false_or, or_false, zbool_i, zb0, zb1, zshp_0, zcs_eq, zcs_n, zcs_cs, zup_g, zup_n, zg_srock2, zg_stug2, zg_ssun, zg_ssun0, zg_srock, zg_srock0, zg_stug, zg_stug0, zg_sord, zg_sord0, zg_srep, zg_srep0, zg_scla, zg_scla0, zg_scon, zg_scon0, zg_swin, zg_swin0, zg_sleg, zg_sleg0, zg_spro, zg_sstp, zg_swrd, zu_srock2, zu_stug2, zu_ssun, zu_ssun0, zu_srock, zu_srock0, zu_stug, zu_stug0, zu_sord, zu_sord0, zu_srep, zu_srep0, zu_scla, zu_scla0, zu_scon, zu_scon0, zu_swin, zu_swin0, zu_sleg, zu_sleg0, zu_spro, zu_sstp, zu_swrd]
  exact ⟨_, (H_s d L p0 p2 r2 r3 s4 C _ hk hC hsm hr).trans (H_bad d L p0 p2 r2 r3 s4 _ b5.1), b5⟩

theorem O_whilen (L p0 p2 r2 r3 s4 : Nat) (T : Nat → Nat) (n : Nat) (x : zLx) (be N j : Nat) (hk : zTk T n x) (hV : zV T x = zWK 13) (hx5 : (zadv T n x).2.2 ≠ 5) {ws : List (Int32 × Int32)} {x2 : zLx} (hk2 : zTk T n x2) (hq : zQt L p0 p2 r2 r3 s4 T n 0 (zadv T n x) 0 0 ws x2) (hns : zns_ T 1 x2) (hno : ¬ zisg T x2 123 ∨ be = 4) : zPf L p0 p2 r2 r3 s4 T n x be N j x2 := by
  have hkind := zV_1 (by omega) hV
  have ha := zadv_k T n x hk.2.1
  have hlt := hk.2.2.2.2.1 (by rw [hkind]; decide)
  intro d C t B sm hbe hC hsm
  obtain ⟨hM, h13, h14, h15, h18, hB, hbk, h19, hx⟩ := id hC
  have h120 := hM.1.2.1
  have hn := hk.2.1
  have h1' := hk.1
  have hm5 := zMS_5 hC
  have t1 := M189_n d L p0 p2 r2 r3 s4 C hM hk h14 h15 (by rw [hV]; rfl)
  have p1 := zc1_M (t := t) hM
  have n1 := zm5_c1 hm5
  have k0 : ¬ lg_cmp (zlw T x) (Int64.ofNat 985) = 0 := fun q => by have := (zlw_eq (T := T) hk (k := 985) (by decide) (by decide)).mp q; rw [hV] at this; exact absurd this (by decide)
  have k1 : ¬ lg_cmp (zlw T x) (Int64.ofNat 55175) = 0 := fun q => by have := (zlw_eq (T := T) hk (k := 55175) (by decide) (by decide)).mp q; rw [hV] at this; exact absurd this (by decide)
  have k11 : ¬ lg_cmp (zlw T x) (Int64.ofNat 11450658) = 0 := fun q => by have := (zlw_eq (T := T) hk (k := 11450658) (by decide) (by decide)).mp q; rw [hV] at this; exact absurd this (by decide)
  have k12 : ¬ lg_cmp (zlw T x) (Int64.ofNat 249) = 0 := fun q => by have := (zlw_eq (T := T) hk (k := 249) (by decide) (by decide)).mp q; rw [hV] at this; exact absurd this (by decide)
  have k13 : (lg_cmp (zlw T x) (Int64.ofNat 12387497) = 0) = True := eq_true ((zlw_eq (T := T) hk (k := 12387497) (by decide) (by decide)).mpr hV)
  obtain ⟨F, t2, f2, f3⟩ := M180 (d + 4) L p0 p2 r2 r3 s4 (zc1 C t) p1 hk.2.1 (by rw [hkind]; decide)
  have n2 := zm5_4 n1 f3
  have fr2 : zFS N j C (zcs (zc1 C t) 401 F) := zFS_t zc1_F (zFS_M f3) (Nat.le_refl _) (Nat.le_refl _)
  obtain ⟨C2, hC2⟩ : ∃ C2, C2 = zcs (zc1 C t) 401 F := ⟨_, rfl⟩
  rcases f2 with ⟨e5, f2⟩ | ⟨e5, _⟩
  case inr => exact absurd e5 hx5
  rw [← hC2] at t2 f2 n2 fr2
  have q13 := n2.1
  have t3 := M185 (d + 6) L p0 p2 r2 r3 s4 C2 (N := N) (by omega) n2.1 13 (nI j) 0 0
  obtain ⟨C3, hC3⟩ : ∃ C3, C3 = zsp C2 N 13 (nI j) 0 0 := ⟨_, rfl⟩
  rw [← hC3] at t3
  have n3 : zm5 C3 (N + 1) j (t + 1) B 1 := by rw [hC3]; exact zm5_sp n2
  have p3 : zPM T n C3 (zadv T n x) := by rw [hC3]; exact zPM_sp f2
  have fr3 : zFS N j C C3 := zFS_t fr2 (by rw [hC3]; exact zFS_st) (Nat.le_refl _) (Nat.le_refl _)
  rcases MX_t d L p0 p2 r2 r3 s4 C3 p3 n3.2.1 (by omega) (by have := ha.1.1; have := ha.1.2.1; omega) hk2 hq hns with ⟨zb, C4, t4, b4⟩ | ⟨e6, C4, t4, m3, m14, mw, mf⟩
  · skip
    have b5 : zBm C (zcs C4 405 (zup (C4 405) 0 (4 * N + 2) (C4 401 0 14))) x2.1 := ⟨by rw [zcs_n _ _ (by decide)]; exact b4.1, by rw [zcs_n _ _ (by decide)]; exact b4.2.1, zFS_t (zFS_w fr3 (Nat.zero_le _) (Nat.zero_le _)) (zFS_t (zBm_d b4).2.2 ⟨fun g a b _ _ _ _ => by rw [zcs_n _ _ b], fun f _ _ _ _ _ _ _ _ _ _ _ _ _ => by rw [zcs_n _ _ (by decide)], fun i hi => absurd hi (by omega), fun i hi => absurd hi (by omega)⟩ (Nat.le_refl _) (Nat.le_refl _)) (Nat.le_refl _) (Nat.le_refl _)⟩
    have t5 := M188_b (d + 6) L p0 p2 r2 r3 s4 _ b5.1 2 (nI N)
    have hr : zR (d + 7) 189 0 [.ref 201, zmk, zmk, zmk, zmk, zmk] [] (zZ L, zI C, zPd p0 p2 r2 r3 s4) = some (none, (zZ L, zI (zcs C4 405 (zup (C4 405) 0 (4 * N + 2) (C4 401 0 14))), zPd p0 p2 r2 r3 s4)) := by
      rw [t1]
      unfold l89
      simp +decide (disch := omega) only [e189_51, e189_63, e189_85, e189_98, e189_153, e189_167, e189_195, e189_206, e189_210, e189_224, t187_aim, t187_burn, t187_until, t187_if, t187_while, k0, k1, k11, k12, k13, e189_228, e189_232, e189_248, e189_252, e189_279, e189_287, e189_288, e189_293, e189_300, t2, t3, t4, q13, t187_if, k12, zn0, List.cons_append, List.nil_append, t5, zpre, ite_self, Nat.reduceAdd, zs1, zs2, zs3, zI_eqb, and_self, not_true_eq_false, if_true, if_false, ite_true, ite_false, not_false_eq_true, zBP, zBZ, zisO, zisA, zlen, decide_true, decide_false, Bool.and_self, Bool.and_true, Bool.true_and, cond_true, cond_false, zBG, zBR, zBU, zBV, zinb_n, zix_n, zlA, zlB, zlM, zlN, zlX, zlI, nI_add, Nat.add_eq_zero_iff, false_and, and_false, and_true, true_and, true_or, or_true, false_or, or_false, zbool_i, zb0, zb1, zshp_0, zcs_eq, zcs_n, zcs_cs, zup_g, zup_n, zg_srock2, zg_stug2, zg_ssun, zg_ssun0, zg_srock, zg_srock0, zg_stug, zg_stug0, zg_sord, zg_sord0, zg_srep, zg_srep0, zg_scla, zg_scla0, zg_scon, zg_scon0, zg_swin, zg_swin0, zg_sleg, zg_sleg0, zg_spro, zg_sstp, zg_swrd, zu_srock2, zu_stug2, zu_ssun, zu_ssun0, zu_srock, zu_srock0, zu_stug, zu_stug0, zu_sord, zu_sord0, zu_srep, zu_srep0, zu_scla, zu_scla0, zu_scon, zu_scon0, zu_swin, zu_swin0, zu_sleg, zu_sleg0, zu_spro, zu_sstp, zu_swrd]
    exact ⟨_, (H_s d L p0 p2 r2 r3 s4 C _ hk hC hsm hr).trans (H_bad d L p0 p2 r2 r3 s4 _ b5.1), b5⟩
  · skip
    have n5 : zm5 (zcs C4 405 (zup (C4 405) 0 (4 * N + 2) (nI (j + ws.length)))) (N + 1) (j + ws.length) (t + 1) B 1 := by
      have n4 := zm5_E n3 mf m14
      unfold zm5 at *
      rw [zcs_n _ _ (by decide), zcs_n _ _ (by decide), zcs_n _ _ (by decide)]
      exact n4
    have p5 : zPM T n (zcs C4 405 (zup (C4 405) 0 (4 * N + 2) (nI (j + ws.length)))) x2 := by
      unfold zPM zMT at *
      rw [zcs_n _ _ (by decide), zcs_n _ _ (by decide)]
      exact m3
    obtain ⟨C5, hC5⟩ : ∃ C5, C5 = (zcs C4 405 (zup (C4 405) 0 (4 * N + 2) (nI (j + ws.length)))) := ⟨_, rfl⟩
    rw [← hC5] at n5 p5
    have f405 : C4 405 = C3 405 := mf.1 405 (by decide) (by decide) (by decide)
    have fr5 : zFS N j C C5 := by
      rw [hC5]
      refine zFS_t (zFS_t fr3 (zFS_E mf) (Nat.le_refl _) (Nat.le_refl _)) ⟨fun g a b _ _ _ _ => by rw [zcs_n _ _ b], fun f _ _ _ _ _ _ _ _ _ _ _ _ _ => by rw [zcs_n _ _ (by decide)], fun i hi => by rw [zcs_eq, zup_n _ _ (by omega)], fun i _ => by rw [zcs_n _ _ (by decide)]⟩ (Nat.le_refl _) (Nat.le_refl _)
    have c405 : C5 405 0 (4 * N) = 13 ∧ C5 405 0 (4 * N + 1) = nI j ∧ C5 405 0 (4 * N + 2) = nI (j + ws.length) := by
      rw [hC5, zcs_eq, f405, hC3]
      refine ⟨by rw [zup_n _ _ (by omega)]; exact zsp_s.1, by rw [zup_n _ _ (by omega)]; exact zsp_s.2.1, by rw [zup_g]⟩
    have w5 : zmr (C5 406 0) j ws := by rw [hC5, zcs_n _ _ (by decide)]; exact mw
    have t5 := M188_n d L p0 p2 r2 r3 s4 C5 2 (nI N) p5 hk2 n5 (by rw [hbe]; exact hno)
    rw [hC5] at t5
    have hr : zR (d + 7) 189 0 [.ref 201, zmk, zmk, zmk, zmk, zmk] [] (zZ L, zI C, zPd p0 p2 r2 r3 s4) = some (none, (zZ L, zI (zcs (zcs C4 405 (zup (C4 405) 0 (4 * N + 2) (nI (j + ws.length)))) 401 (zup (zup ((zcs C4 405 (zup (C4 405) 0 (4 * N + 2) (nI (j + ws.length)))) 401) 0 9 (nI x2.1)) 0 10 1)), zPd p0 p2 r2 r3 s4)) := by
      rw [t1]
      unfold l89
      simp +decide (disch := omega) only [e189_51, e189_63, e189_85, e189_98, e189_153, e189_167, e189_195, e189_206, e189_210, e189_224, t187_aim, t187_burn, t187_until, t187_if, t187_while, k0, k1, k11, k12, k13, e189_228, e189_232, e189_248, e189_252, e189_279, e189_287, e189_288, e189_293, e189_300, t2, t3, t4, q13, t187_if, k12, zn0, List.cons_append, List.nil_append, m14, t5, zpre, ite_self, Nat.reduceAdd, zs1, zs2, zs3, zI_eqb, and_self, not_true_eq_false, if_true, if_false, ite_true, ite_false, not_false_eq_true, zBP, zBZ, zisO, zisA, zlen, decide_true, decide_false, Bool.and_self, Bool.and_true, Bool.true_and, cond_true, cond_false, zBG, zBR, zBU, zBV, zinb_n, zix_n, zlA, zlB, zlM, zlN, zlX, zlI, nI_add, Nat.add_eq_zero_iff, false_and, and_false, and_true, true_and, true_or, or_true, false_or, or_false, zbool_i, zb0, zb1, zshp_0, zcs_eq, zcs_n, zcs_cs, zup_g, zup_n, zg_srock2, zg_stug2, zg_ssun, zg_ssun0, zg_srock, zg_srock0, zg_stug, zg_stug0, zg_sord, zg_sord0, zg_srep, zg_srep0, zg_scla, zg_scla0, zg_scon, zg_scon0, zg_swin, zg_swin0, zg_sleg, zg_sleg0, zg_spro, zg_sstp, zg_swrd, zu_srock2, zu_stug2, zu_ssun, zu_ssun0, zu_srock, zu_srock0, zu_stug, zu_stug0, zu_sord, zu_sord0, zu_srep, zu_srep0, zu_scla, zu_scla0, zu_scon, zu_scon0, zu_swin, zu_swin0, zu_sleg, zu_sleg0, zu_spro, zu_sstp, zu_swrd]
    rw [← hC5] at hr
    have b6 : zBm C (zcs C5 401 (zup (zup (C5 401) 0 9 (nI x2.1)) 0 10 1)) x2.1 := zBm_t fr5 (zbm_wr (T := T) (n := n) p5.2.2.1)
    exact ⟨_, (H_s d L p0 p2 r2 r3 s4 C _ hk hC hsm hr).trans (H_bad d L p0 p2 r2 r3 s4 _ b6.1), b6⟩
/-- the beginning of an S with a block -/
theorem O_whilet (L p0 p2 r2 r3 s4 : Nat) (T : Nat → Nat) (n : Nat) (x : zLx) (be N j : Nat) (hk : zTk T n x) (hV : zV T x = zWK 13) (hx5 : (zadv T n x).2.2 ≠ 5) {ws : List (Int32 × Int32)} {x2 : zLx} (hk2 : zTk T n x2) (hroom : (zadv T n x).1 + ws.length ≤ x2.1) (hq : zQt L p0 p2 r2 r3 s4 T n 0 (zadv T n x) 0 0 ws x2) (hns : zns_ T 1 x2) (h123 : zisg T x2 123) (hbe4 : be < 4) (d : Nat) (C : zCt) (t : Nat) (B : List (Nat × Nat)) (sm : Int32) (hbe : B.length = be) (hC : zMS T n C x N j t B sm) (hsm : sm = 0 ∨ (sm = 1 ∧ x.2.2 ≠ 0 ∧ ¬ zisg T x 125)) : ∃ C', zR (d + 8) 179 46 [.ref 201, .int 1] [] (zZ L, zI C, zPd p0 p2 r2 r3 s4) = zR (d + 8) 179 46 [.ref 201, .int 1] [] (zZ L, zI C', zPd p0 p2 r2 r3 s4) ∧ zMS T n C' (zadv T n x2) (N + 1) (j + ws.length) (t + 1) ((2, N) :: B) 0 ∧ zFS N j C C' ∧ (C' 405 0 (4 * N) = 13 ∧ C' 405 0 (4 * N + 1) = nI j ∧ C' 405 0 (4 * N + 2) = nI (j + ws.length)) ∧ zmr (C' 406 0) j ws := by
  have hkind := zV_1 (by omega) hV
  have ha := zadv_k T n x hk.2.1
  have hlt := hk.2.2.2.2.1 (by rw [hkind]; decide)
  obtain ⟨hM, h13, h14, h15, h18, hB, hbk, h19, hx⟩ := id hC
  have h120 := hM.1.2.1
  have hn := hk.2.1
  have h1' := hk.1
  have hm5 := zMS_5 hC
  have t1 := M189_n d L p0 p2 r2 r3 s4 C hM hk h14 h15 (by rw [hV]; rfl)
  have p1 := zc1_M (t := t) hM
  have n1 := zm5_c1 hm5
  have k0 : ¬ lg_cmp (zlw T x) (Int64.ofNat 985) = 0 := fun q => by have := (zlw_eq (T := T) hk (k := 985) (by decide) (by decide)).mp q; rw [hV] at this; exact absurd this (by decide)
  have k1 : ¬ lg_cmp (zlw T x) (Int64.ofNat 55175) = 0 := fun q => by have := (zlw_eq (T := T) hk (k := 55175) (by decide) (by decide)).mp q; rw [hV] at this; exact absurd this (by decide)
  have k11 : ¬ lg_cmp (zlw T x) (Int64.ofNat 11450658) = 0 := fun q => by have := (zlw_eq (T := T) hk (k := 11450658) (by decide) (by decide)).mp q; rw [hV] at this; exact absurd this (by decide)
  have k12 : ¬ lg_cmp (zlw T x) (Int64.ofNat 249) = 0 := fun q => by have := (zlw_eq (T := T) hk (k := 249) (by decide) (by decide)).mp q; rw [hV] at this; exact absurd this (by decide)
  have k13 : (lg_cmp (zlw T x) (Int64.ofNat 12387497) = 0) = True := eq_true ((zlw_eq (T := T) hk (k := 12387497) (by decide) (by decide)).mpr hV)
  obtain ⟨F, t2, f2, f3⟩ := M180 (d + 4) L p0 p2 r2 r3 s4 (zc1 C t) p1 hk.2.1 (by rw [hkind]; decide)
  have n2 := zm5_4 n1 f3
  have fr2 : zFS N j C (zcs (zc1 C t) 401 F) := zFS_t zc1_F (zFS_M f3) (Nat.le_refl _) (Nat.le_refl _)
  obtain ⟨C2, hC2⟩ : ∃ C2, C2 = zcs (zc1 C t) 401 F := ⟨_, rfl⟩
  rcases f2 with ⟨e5, f2⟩ | ⟨e5, _⟩
  case inr => exact absurd e5 hx5
  rw [← hC2] at t2 f2 n2 fr2
  have q13 := n2.1
  have t3 := M185 (d + 6) L p0 p2 r2 r3 s4 C2 (N := N) (by omega) n2.1 13 (nI j) 0 0
  obtain ⟨C3, hC3⟩ : ∃ C3, C3 = zsp C2 N 13 (nI j) 0 0 := ⟨_, rfl⟩
  rw [← hC3] at t3
  have n3 : zm5 C3 (N + 1) j (t + 1) B 1 := by rw [hC3]; exact zm5_sp n2
  have p3 : zPM T n C3 (zadv T n x) := by rw [hC3]; exact zPM_sp f2
  have fr3 : zFS N j C C3 := zFS_t fr2 (by rw [hC3]; exact zFS_st) (Nat.le_refl _) (Nat.le_refl _)
  rcases MX_t d L p0 p2 r2 r3 s4 C3 p3 n3.2.1 (by omega) (by have := ha.1.1; have := ha.1.2.1; omega) hk2 hq hns with ⟨zb, _⟩ | ⟨e6, C4, t4, m3, m14, mw, mf⟩
  · exfalso
    rcases zb with q | q
    · rw [h123.1] at q; exact absurd q (by decide)
    · unfold zsgn at q
      rw [if_pos h123.1, h123.2] at q
      exact absurd q (by decide)
  have n5 : zm5 (zcs C4 405 (zup (C4 405) 0 (4 * N + 2) (nI (j + ws.length)))) (N + 1) (j + ws.length) (t + 1) B 1 := by
    have n4 := zm5_E n3 mf m14
    unfold zm5 at *
    rw [zcs_n _ _ (by decide), zcs_n _ _ (by decide), zcs_n _ _ (by decide)]
    exact n4
  have p5 : zPM T n (zcs C4 405 (zup (C4 405) 0 (4 * N + 2) (nI (j + ws.length)))) x2 := by
    unfold zPM zMT at *
    rw [zcs_n _ _ (by decide), zcs_n _ _ (by decide)]
    exact m3
  obtain ⟨C5, hC5⟩ : ∃ C5, C5 = (zcs C4 405 (zup (C4 405) 0 (4 * N + 2) (nI (j + ws.length)))) := ⟨_, rfl⟩
  rw [← hC5] at n5 p5
  have f405 : C4 405 = C3 405 := mf.1 405 (by decide) (by decide) (by decide)
  have fr5 : zFS N j C C5 := by
    rw [hC5]
    refine zFS_t (zFS_t fr3 (zFS_E mf) (Nat.le_refl _) (Nat.le_refl _)) ⟨fun g a b _ _ _ _ => by rw [zcs_n _ _ b], fun f _ _ _ _ _ _ _ _ _ _ _ _ _ => by rw [zcs_n _ _ (by decide)], fun i hi => by rw [zcs_eq, zup_n _ _ (by omega)], fun i _ => by rw [zcs_n _ _ (by decide)]⟩ (Nat.le_refl _) (Nat.le_refl _)
  have c405 : C5 405 0 (4 * N) = 13 ∧ C5 405 0 (4 * N + 1) = nI j ∧ C5 405 0 (4 * N + 2) = nI (j + ws.length) := by
    rw [hC5, zcs_eq, f405, hC3]
    refine ⟨by rw [zup_n _ _ (by omega)]; exact zsp_s.1, by rw [zup_n _ _ (by omega)]; exact zsp_s.2.1, by rw [zup_g]⟩
  have w5 : zmr (C5 406 0) j ws := by rw [hC5, zcs_n _ _ (by decide)]; exact mw
  have ha2 := zadv_k T n x2 hk2.2.1
  have hlt2 := hk2.2.2.2.2.1 (by rw [h123.1]; decide)
  obtain ⟨C6, t5, p6, n6, fr6, g5, g6⟩ := M188_t d L p0 p2 r2 r3 s4 C5 (wh := 2) (at_ := N) p5 hk2 n5 h123 (by omega)
  refine ⟨C6, H_s d L p0 p2 r2 r3 s4 C _ hk hC hsm ?_, zMS_of p6 n6 (by omega), zFS_t fr5 (fr6 N j) (Nat.le_refl _) (Nat.le_refl _), by rw [g5]; exact c405, by rw [g6]; exact w5⟩
  rw [hC5, show nI 2 = 2 from rfl] at t5
  rw [t1]
  unfold l89
  simp +decide (disch := omega) only [e189_51, e189_63, e189_85, e189_98, e189_153, e189_167, e189_195, e189_206, e189_210, e189_224, t187_aim, t187_burn, t187_until, t187_if, t187_while, k0, k1, k11, k12, k13, e189_228, e189_232, e189_248, e189_252, e189_279, e189_287, e189_288, e189_293, e189_300, t2, t3, t4, q13, t187_if, k12, zn0, List.cons_append, List.nil_append, m14, t5, zpre, ite_self, Nat.reduceAdd, zs1, zs2, zs3, zI_eqb, and_self, not_true_eq_false, if_true, if_false, ite_true, ite_false, not_false_eq_true, zBP, zBZ, zisO, zisA, zlen, decide_true, decide_false, Bool.and_self, Bool.and_true, Bool.true_and, cond_true, cond_false, zBG, zBR, zBU, zBV, zinb_n, zix_n, zlA, zlB, zlM, zlN, zlX, zlI, nI_add, Nat.add_eq_zero_iff, false_and, and_false, and_true, true_and, true_or, or_true, false_or, or_false, zbool_i, zb0, zb1, zshp_0, zcs_eq, zcs_n, zcs_cs, zup_g, zup_n, zg_srock2, zg_stug2, zg_ssun, zg_ssun0, zg_srock, zg_srock0, zg_stug, zg_stug0, zg_sord, zg_sord0, zg_srep, zg_srep0, zg_scla, zg_scla0, zg_scon, zg_scon0, zg_swin, zg_swin0, zg_sleg, zg_sleg0, zg_spro, zg_sstp, zg_swrd, zu_srock2, zu_stug2, zu_ssun, zu_ssun0, zu_srock, zu_srock0, zu_stug, zu_stug0, zu_sord, zu_sord0, zu_srep, zu_srep0, zu_scla, zu_scla0, zu_scon, zu_scon0, zu_swin, zu_swin0, zu_sleg, zu_sleg0, zu_spro, zu_sstp, zu_swrd]

