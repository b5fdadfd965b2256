/-! THE PROGRAM: S in the model (4), printed by wip/gen/pub78.py -/
theorem M183_a (d L p0 p2 r2 r3 s4 : Nat) (C : zCt) (h : zsf C) (c : Int32) : ∃ r, zR d 183 0 [.ref 201, .int c] [] (zZ L, zI C, zPd p0 p2 r2 r3 s4) = some (some (.int r), (zZ L, zI C, zPd p0 p2 r2 r3 s4)) ∧ (r = 0 ∨ r = 1) := by
  by_cases e : C 401 0 8 = 3
  · obtain ⟨f, hf, h5⟩ := h e
    by_cases q : C 404 0 f = c
    · have q := eq_true q
      refine ⟨1, ?_, Or.inr rfl⟩
      simp +decide (disch := omega) only [e183_0, e183_8, e183_21, e183_26, e, h5, q, zpre, ite_self, Nat.reduceAdd, zs1, zs2, zs3, zI_eqb, and_self, not_true_eq_false, if_true, if_false, ite_true, ite_false, not_false_eq_true, zBP, zBZ, zisO, zisA, zlen, decide_true, decide_false, Bool.and_self, Bool.and_true, Bool.true_and, cond_true, cond_false, zBG, zBR, zBU, zBV, zinb_n, zix_n, zlA, zlB, zlM, zlN, zlX, zlI, nI_add, Nat.add_eq_zero_iff, false_and, and_false, and_true, true_and, true_or, or_true, false_or, or_false, zbool_i, zb0, zb1, zshp_0, zcs_eq, zcs_n, zcs_cs, zup_g, zup_n, zg_srock2, zg_stug2, zg_ssun, zg_ssun0, zg_srock, zg_srock0, zg_stug, zg_stug0, zg_sord, zg_sord0, zg_srep, zg_srep0, zg_scla, zg_scla0, zg_scon, zg_scon0, zg_swin, zg_swin0, zg_sleg, zg_sleg0, zg_spro, zg_sstp, zg_swrd, zu_srock2, zu_stug2, zu_ssun, zu_ssun0, zu_srock, zu_srock0, zu_stug, zu_stug0, zu_sord, zu_sord0, zu_srep, zu_srep0, zu_scla, zu_scla0, zu_scon, zu_scon0, zu_swin, zu_swin0, zu_sleg, zu_sleg0, zu_spro, zu_sstp, zu_swrd]
    · refine ⟨0, ?_, Or.inl rfl⟩
      simp +decide (disch := omega) only [e183_0, e183_8, e183_25, e183_26, e, h5, q, zpre, ite_self, Nat.reduceAdd, zs1, zs2, zs3, zI_eqb, and_self, not_true_eq_false, if_true, if_false, ite_true, ite_false, not_false_eq_true, zBP, zBZ, zisO, zisA, zlen, decide_true, decide_false, Bool.and_self, Bool.and_true, Bool.true_and, cond_true, cond_false, zBG, zBR, zBU, zBV, zinb_n, zix_n, zlA, zlB, zlM, zlN, zlX, zlI, nI_add, Nat.add_eq_zero_iff, false_and, and_false, and_true, true_and, true_or, or_true, false_or, or_false, zbool_i, zb0, zb1, zshp_0, zcs_eq, zcs_n, zcs_cs, zup_g, zup_n, zg_srock2, zg_stug2, zg_ssun, zg_ssun0, zg_srock, zg_srock0, zg_stug, zg_stug0, zg_sord, zg_sord0, zg_srep, zg_srep0, zg_scla, zg_scla0, zg_scon, zg_scon0, zg_swin, zg_swin0, zg_sleg, zg_sleg0, zg_spro, zg_sstp, zg_swrd, zu_srock2, zu_stug2, zu_ssun, zu_ssun0, zu_srock, zu_srock0, zu_stug, zu_stug0, zu_sord, zu_sord0, zu_srep, zu_srep0, zu_scla, zu_scla0, zu_scon, zu_scon0, zu_swin, zu_swin0, zu_sleg, zu_sleg0, zu_spro, zu_sstp, zu_swrd]
  · refine ⟨0, ?_, Or.inl rfl⟩
    simp +decide (disch := omega) only [e183_0, e183_25, e183_26, e, zpre, ite_self, Nat.reduceAdd, zs1, zs2, zs3, zI_eqb, and_self, not_true_eq_false, if_true, if_false, ite_true, ite_false, not_false_eq_true, zBP, zBZ, zisO, zisA, zlen, decide_true, decide_false, Bool.and_self, Bool.and_true, Bool.true_and, cond_true, cond_false, zBG, zBR, zBU, zBV, zinb_n, zix_n, zlA, zlB, zlM, zlN, zlX, zlI, nI_add, Nat.add_eq_zero_iff, false_and, and_false, and_true, true_and, true_or, or_true, false_or, or_false, zbool_i, zb0, zb1, zshp_0, zcs_eq, zcs_n, zcs_cs, zup_g, zup_n, zg_srock2, zg_stug2, zg_ssun, zg_ssun0, zg_srock, zg_srock0, zg_stug, zg_stug0, zg_sord, zg_sord0, zg_srep, zg_srep0, zg_scla, zg_scla0, zg_scon, zg_scon0, zg_swin, zg_swin0, zg_sleg, zg_sleg0, zg_spro, zg_sstp, zg_swrd, zu_srock2, zu_stug2, zu_ssun, zu_ssun0, zu_srock, zu_srock0, zu_stug, zu_stug0, zu_sord, zu_sord0, zu_srep, zu_srep0, zu_scla, zu_scla0, zu_scon, zu_scon0, zu_swin, zu_swin0, zu_sleg, zu_sleg0, zu_spro, zu_sstp, zu_swrd]
/-- a burn whose fault is found: the rest of it -/
theorem M189_bt (d L p0 p2 r2 r3 s4 : Nat) (C0 C : zCt) (T : Nat → Nat) (x : zLx) {N j f : Nat} (hN : N < 130) (h13 : C 401 0 13 = nI N) (hb : zBm C0 C f) (x5 : Int32) : ∃ C', zR (d + 7) 189 129 [.ref 201, .long (zlw T x), zkl zmk, .int (nI 0), .int (nI j), .int x5] [] (zZ L, zI C, zPd p0 p2 r2 r3 s4) = some (none, (zZ L, zI C', zPd p0 p2 r2 r3 s4)) ∧ zBm C0 C' f := by
  have tn := M180b (d + 6) L p0 p2 r2 r3 s4 C hb.1 zmk zmk
  obtain ⟨C3, t3, g3, ff3⟩ := MX_b d L p0 p2 r2 r3 s4 C hb.1
  have b3 : zBm C0 C3 f := ⟨by rw [ff3 10 (by decide) (by decide) (by decide)]; exact hb.1, by rw [ff3 9 (by decide) (by decide) (by decide)]; exact hb.2.1, zFS_t hb.2.2 ⟨fun g a _ _ _ _ _ => g3 g a, fun f _ _ _ _ _ _ _ _ _ _ a b c => ff3 f a b c, fun i hi => absurd hi (by omega), fun i hi => absurd hi (by omega)⟩ (Nat.le_refl _) (Nat.le_refl _)⟩
  have b13 : C3 401 0 13 = nI N := by rw [ff3 13 (by decide) (by decide) (by decide)]; exact h13
  have t4 := M185 (d + 6) L p0 p2 r2 r3 s4 C3 (N := N) hN b13 2 (nI j) x5 (C3 401 0 14)
  refine ⟨zsp C3 N 2 (nI j) x5 (C3 401 0 14), ?_, zBm_sp b3⟩
  rw [e189_129]
  simp +decide (disch := omega) only [e189_133, e189_137, e189_150, e189_300, tn, t3, t4, zpre, ite_self, Nat.reduceAdd, zs1, zs2, zs3, zI_eqb, and_self, not_true_eq_false, if_true, if_false, ite_true, ite_false, not_false_eq_true, zBP, zBZ, zisO, zisA, zlen, decide_true, decide_false, Bool.and_self, Bool.and_true, Bool.true_and, cond_true, cond_false, zBG, zBR, zBU, zBV, zinb_n, zix_n, zlA, zlB, zlM, zlN, zlX, zlI, nI_add, Nat.add_eq_zero_iff, false_and, and_false, and_true, true_and, true_or, or_true, false_or, or_false, zbool_i, zb0, zb1, zshp_0, zcs_eq, zcs_n, zcs_cs, zup_g, zup_n, zg_srock2, zg_stug2, zg_ssun, zg_ssun0, zg_srock, zg_srock0, zg_stug, zg_stug0, zg_sord, zg_sord0, zg_srep, zg_srep0, zg_scla, zg_scla0, zg_scon, zg_scon0, zg_swin, zg_swin0, zg_sleg, zg_sleg0, zg_spro, zg_sstp, zg_swrd, zu_srock2, zu_stug2, zu_ssun, zu_ssun0, zu_srock, zu_srock0, zu_stug, zu_stug0, zu_sord, zu_sord0, zu_srep, zu_srep0, zu_scla, zu_scla0, zu_scon, zu_scon0, zu_swin, zu_swin0, zu_sleg, zu_sleg0, zu_spro, zu_sstp, zu_swrd]

theorem P_burnf (L p0 p2 r2 r3 s4 : Nat) (T : Nat → Nat) (n : Nat) (x : zLx) (be N j : Nat) (hk : zTk T n x) (hV : zV T x = zWK 1) (hx5 : (zadv T n x).2.2 ≠ 5) {x2 : zLx} (hq : zQf L p0 p2 r2 r3 s4 T n 0 (zadv T n x) 0 0 x2) : zPf L p0 p2 r2 r3 s4 T n x be N j x2 := by
  have hkind := zV_1 (by omega) hV
  have ha := zadv_k T n x hk.2.1
  have hlt := hk.2.2.2.2.1 (by rw [hkind]; decide)
  intro d C t B sm hbe hC hsm
  obtain ⟨hM, h13, h14, h15, h18, hB, hbk, h19, hx⟩ := id hC
  have h120 := hM.1.2.1
  have hn := hk.2.1
  have h1' := hk.1
  have hm5 := zMS_5 hC
  have t1 := M189_n d L p0 p2 r2 r3 s4 C hM hk h14 h15 (by rw [hV]; rfl)
  have p1 := zc1_M (t := t) hM
  have n1 := zm5_c1 hm5
  have k0 : ¬ lg_cmp (zlw T x) (Int64.ofNat 985) = 0 := fun q => by have := (zlw_eq (T := T) hk (k := 985) (by decide) (by decide)).mp q; rw [hV] at this; exact absurd this (by decide)
  have k1 : (lg_cmp (zlw T x) (Int64.ofNat 55175) = 0) = True := eq_true ((zlw_eq (T := T) hk (k := 55175) (by decide) (by decide)).mpr hV)
  obtain ⟨F, t2, f2, f3⟩ := M180 (d + 4) L p0 p2 r2 r3 s4 (zc1 C t) p1 hk.2.1 (by rw [hkind]; decide)
  have n2 := zm5_4 n1 f3
  have fr2 : zFS N j C (zcs (zc1 C t) 401 F) := zFS_t zc1_F (zFS_M f3) (Nat.le_refl _) (Nat.le_refl _)
  obtain ⟨C2, hC2⟩ : ∃ C2, C2 = zcs (zc1 C t) 401 F := ⟨_, rfl⟩
  rcases f2 with ⟨e5, f2⟩ | ⟨e5, _⟩
  case inr => exact absurd e5 hx5
  rw [← hC2] at t2 f2 n2 fr2
  obtain ⟨C3, t3, b3⟩ := MX_f d L p0 p2 r2 r3 s4 C2 f2 n2.2.1 (by omega) (by have := ha.1.1; have := ha.1.2.1; omega) hq
  have b13 : C3 401 0 13 = nI N := by rw [b3.2.2.1.2.1 13 (by decide) (by decide) (by decide) (by decide) (by decide) (by decide) (by decide) (by decide) (by decide)]; exact n2.1
  have hsf3 := b3.2.2.2
  have b3m := zBm_t fr2 (zBm_d b3)
  obtain ⟨r, t4, hr01⟩ := M183_a (d + 6) L p0 p2 r2 r3 s4 C3 hsf3 44
  obtain ⟨C4, t5, b4⟩ := M189_bt d L p0 p2 r2 r3 s4 C C3 T x (N := N) (j := j) (by omega) b13 b3m (C3 401 0 14)
  have tw := M182b (d + 6) L p0 p2 r2 r3 s4 C3 b3m.1
  have hr : zR (d + 7) 189 0 [.ref 201, zmk, zmk, zmk, zmk, zmk] [] (zZ L, zI C, zPd p0 p2 r2 r3 s4) = some (none, (zZ L, zI C4, zPd p0 p2 r2 r3 s4)) := by
    rw [t1]
    unfold l89
    rcases hr01 with e | e
    · subst e
      simp +decide (disch := omega) only [e189_51, e189_63, e189_85, e189_98, t187_aim, t187_burn, k0, k1, e189_102, e189_106, e189_110, e189_122, e189_125, t2, t3, t4, tw, t5, List.cons_append, List.nil_append, zpre, ite_self, Nat.reduceAdd, zs1, zs2, zs3, zI_eqb, and_self, not_true_eq_false, if_true, if_false, ite_true, ite_false, not_false_eq_true, zBP, zBZ, zisO, zisA, zlen, decide_true, decide_false, Bool.and_self, Bool.and_true, Bool.true_and, cond_true, cond_false, zBG, zBR, zBU, zBV, zinb_n, zix_n, zlA, zlB, zlM, zlN, zlX, zlI, nI_add, Nat.add_eq_zero_iff, false_and, and_false, and_true, true_and, true_or, or_true, false_or, or_false, zbool_i, zb0, zb1, zshp_0, zcs_eq, zcs_n, zcs_cs, zup_g, zup_n, zg_srock2, zg_stug2, zg_ssun, zg_ssun0, zg_srock, zg_srock0, zg_stug, zg_stug0, zg_sord, zg_sord0, zg_srep, zg_srep0, zg_scla, zg_scla0, zg_scon, zg_scon0, zg_swin, zg_swin0, zg_sleg, zg_sleg0, zg_spro, zg_sstp, zg_swrd, zu_srock2, zu_stug2, zu_ssun, zu_ssun0, zu_srock, zu_srock0, zu_stug, zu_stug0, zu_sord, zu_sord0, zu_srep, zu_srep0, zu_scla, zu_scla0, zu_scon, zu_scon0, zu_swin, zu_swin0, zu_sleg, zu_sleg0, zu_spro, zu_sstp, zu_swrd]
    · subst e
      simp +decide (disch := omega) only [e189_51, e189_63, e189_85, e189_98, t187_aim, t187_burn, k0, k1, e189_102, e189_106, e189_110, e189_122, t2, t3, t4, t5, List.cons_append, List.nil_append, zpre, ite_self, Nat.reduceAdd, zs1, zs2, zs3, zI_eqb, and_self, not_true_eq_false, if_true, if_false, ite_true, ite_false, not_false_eq_true, zBP, zBZ, zisO, zisA, zlen, decide_true, decide_false, Bool.and_self, Bool.and_true, Bool.true_and, cond_true, cond_false, zBG, zBR, zBU, zBV, zinb_n, zix_n, zlA, zlB, zlM, zlN, zlX, zlI, nI_add, Nat.add_eq_zero_iff, false_and, and_false, and_true, true_and, true_or, or_true, false_or, or_false, zbool_i, zb0, zb1, zshp_0, zcs_eq, zcs_n, zcs_cs, zup_g, zup_n, zg_srock2, zg_stug2, zg_ssun, zg_ssun0, zg_srock, zg_srock0, zg_stug, zg_stug0, zg_sord, zg_sord0, zg_srep, zg_srep0, zg_scla, zg_scla0, zg_scon, zg_scon0, zg_swin, zg_swin0, zg_sleg, zg_sleg0, zg_spro, zg_sstp, zg_swrd, zu_srock2, zu_stug2, zu_ssun, zu_ssun0, zu_srock, zu_srock0, zu_stug, zu_stug0, zu_sord, zu_sord0, zu_srep, zu_srep0, zu_scla, zu_scla0, zu_scon, zu_scon0, zu_swin, zu_swin0, zu_sleg, zu_sleg0, zu_spro, zu_sstp, zu_swrd]
  exact ⟨_, (H_s d L p0 p2 r2 r3 s4 C _ hk hC hsm hr).trans (H_bad d L p0 p2 r2 r3 s4 _ b4.1), b4⟩
theorem P_burn5 (L p0 p2 r2 r3 s4 : Nat) (T : Nat → Nat) (n : Nat) (x : zLx) (be N j : Nat) (hk : zTk T n x) (hV : zV T x = zWK 1) (hx5 : (zadv T n x).2.2 = 5) : zPf L p0 p2 r2 r3 s4 T n x be N j (zadv T n x) := by
  have hkind := zV_1 (by omega) hV
  have ha := zadv_k T n x hk.2.1
  have hlt := hk.2.2.2.2.1 (by rw [hkind]; decide)
  intro d C t B sm hbe hC hsm
  obtain ⟨hM, h13, h14, h15, h18, hB, hbk, h19, hx⟩ := id hC
  have h120 := hM.1.2.1
  have hn := hk.2.1
  have h1' := hk.1
  have hm5 := zMS_5 hC
  have t1 := M189_n d L p0 p2 r2 r3 s4 C hM hk h14 h15 (by rw [hV]; rfl)
  have p1 := zc1_M (t := t) hM
  have n1 := zm5_c1 hm5
  have k0 : ¬ lg_cmp (zlw T x) (Int64.ofNat 985) = 0 := fun q => by have := (zlw_eq (T := T) hk (k := 985) (by decide) (by decide)).mp q; rw [hV] at this; exact absurd this (by decide)
  have k1 : (lg_cmp (zlw T x) (Int64.ofNat 55175) = 0) = True := eq_true ((zlw_eq (T := T) hk (k := 55175) (by decide) (by decide)).mpr hV)
  obtain ⟨F, t2, f2, f3⟩ := M180 (d + 4) L p0 p2 r2 r3 s4 (zc1 C t) p1 hk.2.1 (by rw [hkind]; decide)
  have n2 := zm5_4 n1 f3
  have fr2 : zFS N j C (zcs (zc1 C t) 401 F) := zFS_t zc1_F (zFS_M f3) (Nat.le_refl _) (Nat.le_refl _)
  obtain ⟨C2, hC2⟩ : ∃ C2, C2 = zcs (zc1 C t) 401 F := ⟨_, rfl⟩
  rcases f2 with ⟨e5, _⟩ | ⟨_, f4, f5, f6, f7, f8⟩
  case inl => exact absurd hx5 e5
  have b2 : zBm C C2 (zadv T n x).1 := ⟨by rw [hC2, zcs_eq]; exact f4, by rw [hC2, zcs_eq]; exact f5, by rw [hC2]; exact zFS_w fr2 (Nat.zero_le _) (Nat.zero_le _)⟩
  have b13 : C2 401 0 13 = nI N := by rw [hC2]; exact n2.1
  rw [← hC2] at t2
  obtain ⟨C3, t3, g3, ff3⟩ := MX_b d L p0 p2 r2 r3 s4 C2 b2.1
  have b3m : zBm C C3 (zadv T n x).1 := ⟨by rw [ff3 10 (by decide) (by decide) (by decide)]; exact b2.1, by rw [ff3 9 (by decide) (by decide) (by decide)]; exact b2.2.1, zFS_t b2.2.2 ⟨fun g a _ _ _ _ _ => g3 g a, fun f _ _ _ _ _ _ _ _ _ _ a b c => ff3 f a b c, fun i hi => absurd hi (by omega), fun i hi => absurd hi (by omega)⟩ (Nat.le_refl _) (Nat.le_refl _)⟩
  have b13 : C3 401 0 13 = nI N := by rw [ff3 13 (by decide) (by decide) (by decide)]; exact b13
  have hsf3 : zsf C3 := zsf_12 (by rw [ff3 8 (by decide) (by decide) (by decide), hC2, zcs_eq]; exact f8)
  obtain ⟨r, t4, hr01⟩ := M183_a (d + 6) L p0 p2 r2 r3 s4 C3 hsf3 44
  obtain ⟨C4, t5, b4⟩ := M189_bt d L p0 p2 r2 r3 s4 C C3 T x (N := N) (j := j) (by omega) b13 b3m (C3 401 0 14)
  have tw := M182b (d + 6) L p0 p2 r2 r3 s4 C3 b3m.1
  have hr : zR (d + 7) 189 0 [.ref 201, zmk, zmk, zmk, zmk, zmk] [] (zZ L, zI C, zPd p0 p2 r2 r3 s4) = some (none, (zZ L, zI C4, zPd p0 p2 r2 r3 s4)) := by
    rw [t1]
    unfold l89
    rcases hr01 with e | e
    · subst e
      simp +decide (disch := omega) only [e189_51, e189_63, e189_85, e189_98, t187_aim, t187_burn, k0, k1, e189_102, e189_106, e189_110, e189_122, e189_125, t2, t3, t4, tw, t5, List.cons_append, List.nil_append, zpre, ite_self, Nat.reduceAdd, zs1, zs2, zs3, zI_eqb, and_self, not_true_eq_false, if_true, if_false, ite_true, ite_false, not_false_eq_true, zBP, zBZ, zisO, zisA, zlen, decide_true, decide_false, Bool.and_self, Bool.and_true, Bool.true_and, cond_true, cond_false, zBG, zBR, zBU, zBV, zinb_n, zix_n, zlA, zlB, zlM, zlN, zlX, zlI, nI_add, Nat.add_eq_zero_iff, false_and, and_false, and_true, true_and, true_or, or_true, false_or, or_false, zbool_i, zb0, zb1, zshp_0, zcs_eq, zcs_n, zcs_cs, zup_g, zup_n, zg_srock2, zg_stug2, zg_ssun, zg_ssun0, zg_srock, zg_srock0, zg_stug, zg_stug0, zg_sord, zg_sord0, zg_srep, zg_srep0, zg_scla, zg_scla0, zg_scon, zg_scon0, zg_swin, zg_swin0, zg_sleg, zg_sleg0, zg_spro, zg_sstp, zg_swrd, zu_srock2, zu_stug2, zu_ssun, zu_ssun0, zu_srock, zu_srock0, zu_stug, zu_stug0, zu_sord, zu_sord0, zu_srep, zu_srep0, zu_scla, zu_scla0, zu_scon, zu_scon0, zu_swin, zu_swin0, zu_sleg, zu_sleg0, zu_spro, zu_sstp, zu_swrd]
    · subst e
      simp +decide (disch := omega) only [e189_51, e189_63, e189_85, e189_98, t187_aim, t187_burn, k0, k1, e189_102, e189_106, e189_110, e189_122, t2, t3, t4, t5, List.cons_append, List.nil_append, zpre, ite_self, Nat.reduceAdd, zs1, zs2, zs3, zI_eqb, and_self, not_true_eq_false, if_true, if_false, ite_true, ite_false, not_false_eq_true, zBP, zBZ, zisO, zisA, zlen, decide_true, decide_false, Bool.and_self, Bool.and_true, Bool.true_and, cond_true, cond_false, zBG, zBR, zBU, zBV, zinb_n, zix_n, zlA, zlB, zlM, zlN, zlX, zlI, nI_add, Nat.add_eq_zero_iff, false_and, and_false, and_true, true_and, true_or, or_true, false_or, or_false, zbool_i, zb0, zb1, zshp_0, zcs_eq, zcs_n, zcs_cs, zup_g, zup_n, zg_srock2, zg_stug2, zg_ssun, zg_ssun0, zg_srock, zg_srock0, zg_stug, zg_stug0, zg_sord, zg_sord0, zg_srep, zg_srep0, zg_scla, zg_scla0, zg_scon, zg_scon0, zg_swin, zg_swin0, zg_sleg, zg_sleg0, zg_spro, zg_sstp, zg_swrd, zu_srock2, zu_stug2, zu_ssun, zu_ssun0, zu_srock, zu_srock0, zu_stug, zu_stug0, zu_sord, zu_sord0, zu_srep, zu_srep0, zu_scla, zu_scla0, zu_scon, zu_scon0, zu_swin, zu_swin0, zu_sleg, zu_sleg0, zu_spro, zu_sstp, zu_swrd]
  exact ⟨_, (H_s d L p0 p2 r2 r3 s4 C _ hk hC hsm hr).trans (H_bad d L p0 p2 r2 r3 s4 _ b4.1), b4⟩
theorem P_burnn (L p0 p2 r2 r3 s4 : Nat) (T : Nat → Nat) (n : Nat) (x : zLx) (be N j : Nat) (hk : zTk T n x) (hV : zV T x = zWK 1) (hx5 : (zadv T n x).2.2 ≠ 5) {ws : List (Int32 × Int32)} {x2 : zLx} (hk2 : zTk T n x2) (hq : zQt L p0 p2 r2 r3 s4 T n 0 (zadv T n x) 0 0 ws x2) (hns : zns_ T 1 x2) (h44 : ¬ zisg T x2 44) : zPf L p0 p2 r2 r3 s4 T n x be N j x2 := by
  have hkind := zV_1 (by omega) hV
  have ha := zadv_k T n x hk.2.1
  have hlt := hk.2.2.2.2.1 (by rw [hkind]; decide)
  intro d C t B sm hbe hC hsm
  obtain ⟨hM, h13, h14, h15, h18, hB, hbk, h19, hx⟩ := id hC
  have h120 := hM.1.2.1
  have hn := hk.2.1
  have h1' := hk.1
  have hm5 := zMS_5 hC
  have t1 := M189_n d L p0 p2 r2 r3 s4 C hM hk h14 h15 (by rw [hV]; rfl)
  have p1 := zc1_M (t := t) hM
  have n1 := zm5_c1 hm5
  have k0 : ¬ lg_cmp (zlw T x) (Int64.ofNat 985) = 0 := fun q => by have := (zlw_eq (T := T) hk (k := 985) (by decide) (by decide)).mp q; rw [hV] at this; exact absurd this (by decide)
  have k1 : (lg_cmp (zlw T x) (Int64.ofNat 55175) = 0) = True := eq_true ((zlw_eq (T := T) hk (k := 55175) (by decide) (by decide)).mpr hV)
  obtain ⟨F, t2, f2, f3⟩ := M180 (d + 4) L p0 p2 r2 r3 s4 (zc1 C t) p1 hk.2.1 (by rw [hkind]; decide)
  have n2 := zm5_4 n1 f3
  have fr2 : zFS N j C (zcs (zc1 C t) 401 F) := zFS_t zc1_F (zFS_M f3) (Nat.le_refl _) (Nat.le_refl _)
  obtain ⟨C2, hC2⟩ : ∃ C2, C2 = zcs (zc1 C t) 401 F := ⟨_, rfl⟩
  rcases f2 with ⟨e5, f2⟩ | ⟨e5, _⟩
  case inr => exact absurd e5 hx5
  rw [← hC2] at t2 f2 n2 fr2
  rcases MX_t d L p0 p2 r2 r3 s4 C2 f2 n2.2.1 (by omega) (by have := ha.1.1; have := ha.1.2.1; omega) hk2 hq hns with ⟨zb, C3, t3, b3⟩ | ⟨e6, C3, t3, m3, m14, mw, mf⟩
  · have b13 : C3 401 0 13 = nI N := by rw [b3.2.2.1.2.1 13 (by decide) (by decide) (by decide) (by decide) (by decide) (by decide) (by decide) (by decide) (by decide)]; exact n2.1
    have hsf3 := b3.2.2.2
    have b3m := zBm_t fr2 (zBm_d b3)
    obtain ⟨r, t4, hr01⟩ := M183_a (d + 6) L p0 p2 r2 r3 s4 C3 hsf3 44
    obtain ⟨C4, t5, b4⟩ := M189_bt d L p0 p2 r2 r3 s4 C C3 T x (N := N) (j := j) (by omega) b13 b3m (C3 401 0 14)
    have tw := M182b (d + 6) L p0 p2 r2 r3 s4 C3 b3m.1
    have hr : zR (d + 7) 189 0 [.ref 201, zmk, zmk, zmk, zmk, zmk] [] (zZ L, zI C, zPd p0 p2 r2 r3 s4) = some (none, (zZ L, zI C4, zPd p0 p2 r2 r3 s4)) := by
      rw [t1]
      unfold l89
      rcases hr01 with e | e
      · subst e
        simp +decide (disch := omega) only [e189_51, e189_63, e189_85, e189_98, t187_aim, t187_burn, k0, k1, e189_102, e189_106, e189_110, e189_122, e189_125, t2, t3, t4, tw, t5, List.cons_append, List.nil_append, zpre, ite_self, Nat.reduceAdd, zs1, zs2, zs3, zI_eqb, and_self, not_true_eq_false, if_true, if_false, ite_true, ite_false, not_false_eq_true, zBP, zBZ, zisO, zisA, zlen, decide_true, decide_false, Bool.and_self, Bool.and_true, Bool.true_and, cond_true, cond_false, zBG, zBR, zBU, zBV, zinb_n, zix_n, zlA, zlB, zlM, zlN, zlX, zlI, nI_add, Nat.add_eq_zero_iff, false_and, and_false, and_true, true_and, true_or, or_true, false_or, or_false, zbool_i, zb0, zb1, zshp_0, zcs_eq, zcs_n, zcs_cs, zup_g, zup_n, zg_srock2, zg_stug2, zg_ssun, zg_ssun0, zg_srock, zg_srock0, zg_stug, zg_stug0, zg_sord, zg_sord0, zg_srep, zg_srep0, zg_scla, zg_scla0, zg_scon, zg_scon0, zg_swin, zg_swin0, zg_sleg, zg_sleg0, zg_spro, zg_sstp, zg_swrd, zu_srock2, zu_stug2, zu_ssun, zu_ssun0, zu_srock, zu_srock0, zu_stug, zu_stug0, zu_sord, zu_sord0, zu_srep, zu_srep0, zu_scla, zu_scla0, zu_scon, zu_scon0, zu_swin, zu_swin0, zu_sleg, zu_sleg0, zu_spro, zu_sstp, zu_swrd]
      · subst e
        simp +decide (disch := omega) only [e189_51, e189_63, e189_85, e189_98, t187_aim, t187_burn, k0, k1, e189_102, e189_106, e189_110, e189_122, t2, t3, t4, t5, List.cons_append, List.nil_append, zpre, ite_self, Nat.reduceAdd, zs1, zs2, zs3, zI_eqb, and_self, not_true_eq_false, if_true, if_false, ite_true, ite_false, not_false_eq_true, zBP, zBZ, zisO, zisA, zlen, decide_true, decide_false, Bool.and_self, Bool.and_true, Bool.true_and, cond_true, cond_false, zBG, zBR, zBU, zBV, zinb_n, zix_n, zlA, zlB, zlM, zlN, zlX, zlI, nI_add, Nat.add_eq_zero_iff, false_and, and_false, and_true, true_and, true_or, or_true, false_or, or_false, zbool_i, zb0, zb1, zshp_0, zcs_eq, zcs_n, zcs_cs, zup_g, zup_n, zg_srock2, zg_stug2, zg_ssun, zg_ssun0, zg_srock, zg_srock0, zg_stug, zg_stug0, zg_sord, zg_sord0, zg_srep, zg_srep0, zg_scla, zg_scla0, zg_scon, zg_scon0, zg_swin, zg_swin0, zg_sleg, zg_sleg0, zg_spro, zg_sstp, zg_swrd, zu_srock2, zu_stug2, zu_ssun, zu_ssun0, zu_srock, zu_srock0, zu_stug, zu_stug0, zu_sord, zu_sord0, zu_srep, zu_srep0, zu_scla, zu_scla0, zu_scon, zu_scon0, zu_swin, zu_swin0, zu_sleg, zu_sleg0, zu_spro, zu_sstp, zu_swrd]
    exact ⟨_, (H_s d L p0 p2 r2 r3 s4 C _ hk hC hsm hr).trans (H_bad d L p0 p2 r2 r3 s4 _ b4.1), b4⟩
  · have n3 := zm5_E n2 mf m14
    have t4 : zR (d + 6) 183 0 [.ref 201, .int 44] [] (zZ L, zI C3, zPd p0 p2 r2 r3 s4) = _ := M183_n (d + 6) L p0 p2 r2 r3 s4 C3 m3 hk2 (c := 44) (by decide) h44
    have tw := M182 (d + 6) L p0 p2 r2 r3 s4 C3 m3.2.2.2.2
    rw [m3.2.2.1] at tw
    obtain ⟨C4, hC4⟩ : ∃ C4, C4 = zcs C3 401 (zup (zup (C3 401) 0 9 (nI x2.1)) 0 10 1) := ⟨_, rfl⟩
    rw [← hC4] at tw
    have b4' : zBm C C4 x2.1 := by rw [hC4]; exact zBm_t (zFS_t fr2 (zFS_E mf) (Nat.le_refl _) (Nat.le_refl _)) (zbm_wr (T := T) (n := n) m3.2.2.1)
    have b13 : C4 401 0 13 = nI N := by rw [hC4, zcs_eq, zup_n _ _ (by omega), zup_n _ _ (by omega)]; exact n3.1
    obtain ⟨C5, t5, b5⟩ := M189_bt d L p0 p2 r2 r3 s4 C C4 T x (N := N) (j := j) (by omega) b13 b4' (nI (j + ws.length))
    have hr : zR (d + 7) 189 0 [.ref 201, zmk, zmk, zmk, zmk, zmk] [] (zZ L, zI C, zPd p0 p2 r2 r3 s4) = some (none, (zZ L, zI C5, zPd p0 p2 r2 r3 s4)) := by
      rw [t1]
      unfold l89
      simp +decide (disch := omega) only [e189_51, e189_63, e189_85, e189_98, t187_aim, t187_burn, k0, k1, e189_102, e189_106, e189_110, e189_122, e189_125, t2, t3, t4, m14, tw, t5, List.cons_append, List.nil_append, zpre, ite_self, Nat.reduceAdd, zs1, zs2, zs3, zI_eqb, and_self, not_true_eq_false, if_true, if_false, ite_true, ite_false, not_false_eq_true, zBP, zBZ, zisO, zisA, zlen, decide_true, decide_false, Bool.and_self, Bool.and_true, Bool.true_and, cond_true, cond_false, zBG, zBR, zBU, zBV, zinb_n, zix_n, zlA, zlB, zlM, zlN, zlX, zlI, nI_add, Nat.add_eq_zero_iff, false_and, and_false, and_true, true_and, true_or, or_true, false_or, or_false, zbool_i, zb0, zb1, zshp_0, zcs_eq, zcs_n, zcs_cs, zup_g, zup_n, zg_srock2, zg_stug2, zg_ssun, zg_ssun0, zg_srock, zg_srock0, zg_stug, zg_stug0, zg_sord, zg_sord0, zg_srep, zg_srep0, zg_scla, zg_scla0, zg_scon, zg_scon0, zg_swin, zg_swin0, zg_sleg, zg_sleg0, zg_spro, zg_sstp, zg_swrd, zu_srock2, zu_stug2, zu_ssun, zu_ssun0, zu_srock, zu_srock0, zu_stug, zu_stug0, zu_sord, zu_sord0, zu_srep, zu_srep0, zu_scla, zu_scla0, zu_scon, zu_scon0, zu_swin, zu_swin0, zu_sleg, zu_sleg0, zu_spro, zu_sstp, zu_swrd]
    exact ⟨_, (H_s d L p0 p2 r2 r3 s4 C _ hk hC hsm hr).trans (H_bad d L p0 p2 r2 r3 s4 _ b5.1), b5⟩

theorem P_burng (L p0 p2 r2 r3 s4 : Nat) (T : Nat → Nat) (n : Nat) (x : zLx) (be N j : Nat) (hk : zTk T n x) (hV : zV T x = zWK 1) (hx5 : (zadv T n x).2.2 ≠ 5) {ws : List (Int32 × Int32)} {x2 x4 : zLx} (hk2 : zTk T n x2) (hroom : (zadv T n x).1 + ws.length ≤ x2.1) (hq : zQt L p0 p2 r2 r3 s4 T n 0 (zadv T n x) 0 0 ws x2) (hns : zns_ T 1 x2) (h44 : zisg T x2 44) (hq2 : zQf L p0 p2 r2 r3 s4 T n 0 (zadv T n x2) 0 0 x4) : zPf L p0 p2 r2 r3 s4 T n x be N j x4 := by
  have hkind := zV_1 (by omega) hV
  have ha := zadv_k T n x hk.2.1
  have hlt := hk.2.2.2.2.1 (by rw [hkind]; decide)
  intro d C t B sm hbe hC hsm
  obtain ⟨hM, h13, h14, h15, h18, hB, hbk, h19, hx⟩ := id hC
  have h120 := hM.1.2.1
  have hn := hk.2.1
  have h1' := hk.1
  have hm5 := zMS_5 hC
  have t1 := M189_n d L p0 p2 r2 r3 s4 C hM hk h14 h15 (by rw [hV]; rfl)
  have p1 := zc1_M (t := t) hM
  have n1 := zm5_c1 hm5
  have k0 : ¬ lg_cmp (zlw T x) (Int64.ofNat 985) = 0 := fun q => by have := (zlw_eq (T := T) hk (k := 985) (by decide) (by decide)).mp q; rw [hV] at this; exact absurd this (by decide)
  have k1 : (lg_cmp (zlw T x) (Int64.ofNat 55175) = 0) = True := eq_true ((zlw_eq (T := T) hk (k := 55175) (by decide) (by decide)).mpr hV)
  obtain ⟨F, t2, f2, f3⟩ := M180 (d + 4) L p0 p2 r2 r3 s4 (zc1 C t) p1 hk.2.1 (by rw [hkind]; decide)
  have n2 := zm5_4 n1 f3
  have fr2 : zFS N j C (zcs (zc1 C t) 401 F) := zFS_t zc1_F (zFS_M f3) (Nat.le_refl _) (Nat.le_refl _)
  obtain ⟨C2, hC2⟩ : ∃ C2, C2 = zcs (zc1 C t) 401 F := ⟨_, rfl⟩
  rcases f2 with ⟨e5, f2⟩ | ⟨e5, _⟩
  case inr => exact absurd e5 hx5
  rw [← hC2] at t2 f2 n2 fr2
  have ha2 := zadv_k T n x2 hk2.2.1
  have hlt2 := hk2.2.2.2.2.1 (by rw [h44.1]; decide)
  rcases MX_t d L p0 p2 r2 r3 s4 C2 f2 n2.2.1 (by omega) (by have := ha.1.1; have := ha.1.2.1; omega) hk2 hq hns with ⟨zb, _⟩ | ⟨e6, C3, t3, m3, m14, mw, mf⟩
  · exfalso
    rcases zb with q | q
    · rw [h44.1] at q; exact absurd q (by decide)
    · unfold zsgn at q
      rw [if_pos h44.1, h44.2] at q
      exact absurd q (by decide)
  have n3 := zm5_E n2 mf m14
  have fr3 : zFS N j C C3 := zFS_t fr2 (zFS_E mf) (Nat.le_refl _) (Nat.le_refl _)
  have t4 : zR (d + 6) 183 0 [.ref 201, .int 44] [] (zZ L, zI C3, zPd p0 p2 r2 r3 s4) = _ := M183_y (d + 6) L p0 p2 r2 r3 s4 C3 m3 hk2 h44
  obtain ⟨F', t5, g2, g3⟩ := M180 (d + 4) L p0 p2 r2 r3 s4 C3 m3 hk2.2.1 (by rw [h44.1]; decide)
  rcases g2 with ⟨e7, g2⟩ | ⟨e7, _⟩
  case inr => exact absurd e7 (zadv_n5 h44.1)
  have n4 := zm5_4 n3 g3
  have fr4 : zFS N j C (zcs C3 401 F') := zFS_t fr3 (zFS_M g3) (Nat.le_refl _) (Nat.le_refl _)
  have mw4 : zmr ((zcs C3 401 F') 406 0) j ws := by rw [zcs_n _ _ (by decide)]; exact mw
  obtain ⟨C4, hC4⟩ : ∃ C4, C4 = zcs C3 401 F' := ⟨_, rfl⟩
  rw [← hC4] at t5 g2 n4 fr4 mw4
  have hx3 : (zadv T n x2).1 ≤ 120 := by have := ha2.1.1; have := ha2.1.2.1; omega
  obtain ⟨C5, t6, b5⟩ := MX_f d L p0 p2 r2 r3 s4 C4 g2 n4.2.1 (by omega) hx3 hq2
  have b13 : C5 401 0 13 = nI N := by rw [b5.2.2.1.2.1 13 (by decide) (by decide) (by decide) (by decide) (by decide) (by decide) (by decide) (by decide) (by decide)]; exact n4.1
  have t7 := M185 (d + 6) L p0 p2 r2 r3 s4 C5 (N := N) (by omega) b13 2 (nI j) (nI (j + ws.length)) (C5 401 0 14)
  have hr : zR (d + 7) 189 0 [.ref 201, zmk, zmk, zmk, zmk, zmk] [] (zZ L, zI C, zPd p0 p2 r2 r3 s4) = some (none, (zZ L, zI (zsp C5 N 2 (nI j) (nI (j + ws.length)) (C5 401 0 14)), zPd p0 p2 r2 r3 s4)) := by
    rw [t1]
    unfold l89
    simp +decide (disch := omega) only [e189_51, e189_63, e189_85, e189_98, t187_aim, t187_burn, k0, k1, e189_102, e189_106, e189_110, e189_122, e189_129, e189_133, e189_137, e189_150, e189_300, t2, t3, t4, t5, t6, t7, m14, List.cons_append, List.nil_append, zpre, ite_self, Nat.reduceAdd, zs1, zs2, zs3, zI_eqb, and_self, not_true_eq_false, if_true, if_false, ite_true, ite_false, not_false_eq_true, zBP, zBZ, zisO, zisA, zlen, decide_true, decide_false, Bool.and_self, Bool.and_true, Bool.true_and, cond_true, cond_false, zBG, zBR, zBU, zBV, zinb_n, zix_n, zlA, zlB, zlM, zlN, zlX, zlI, nI_add, Nat.add_eq_zero_iff, false_and, and_false, and_true, true_and, true_or, or_true, false_or, or_false, zbool_i, zb0, zb1, zshp_0, zcs_eq, zcs_n, zcs_cs, zup_g, zup_n, zg_srock2, zg_stug2, zg_ssun, zg_ssun0, zg_srock, zg_srock0, zg_stug, zg_stug0, zg_sord, zg_sord0, zg_srep, zg_srep0, zg_scla, zg_scla0, zg_scon, zg_scon0, zg_swin, zg_swin0, zg_sleg, zg_sleg0, zg_spro, zg_sstp, zg_swrd, zu_srock2, zu_stug2, zu_ssun, zu_ssun0, zu_srock, zu_srock0, zu_stug, zu_stug0, zu_sord, zu_sord0, zu_srep, zu_srep0, zu_scla, zu_scla0, zu_scon, zu_scon0, zu_swin, zu_swin0, zu_sleg, zu_sleg0, zu_spro, zu_sstp, zu_swrd]
  exact ⟨_, (H_s d L p0 p2 r2 r3 s4 C _ hk hC hsm hr).trans (H_bad d L p0 p2 r2 r3 s4 _ (by rw [zsp_f (by decide)]; exact b5.1)), zBm_sp (zBm_t fr4 (zBm_d b5))⟩
theorem P_burnt (L p0 p2 r2 r3 s4 : Nat) (T : Nat → Nat) (n : Nat) (x : zLx) (be N j : Nat) (hk : zTk T n x) (hV : zV T x = zWK 1) (hx5 : (zadv T n x).2.2 ≠ 5) {ws w2 : List (Int32 × Int32)} {x2 x4 : zLx} (hk2 : zTk T n x2) (hroom : (zadv T n x).1 + ws.length ≤ x2.1) (hq : zQt L p0 p2 r2 r3 s4 T n 0 (zadv T n x) 0 0 ws x2) (hns : zns_ T 1 x2) (h44 : zisg T x2 44) (hk4 : zTk T n x4) (hroom2 : (zadv T n x2).1 + w2.length ≤ x4.1) (hq2 : zQt L p0 p2 r2 r3 s4 T n 0 (zadv T n x2) 0 0 w2 x4) (hns2 : zns_ T 1 x4) : zPt L p0 p2 r2 r3 s4 T n x be N j [(ws ++ w2, (2, nI j, nI (j + ws.length), nI (j + (ws.length + w2.length))), (1, 0))] 1 x4 := by
  have hkind := zV_1 (by omega) hV
  have ha := zadv_k T n x hk.2.1
  have hlt := hk.2.2.2.2.1 (by rw [hkind]; decide)
  intro d C t B sm hbe hC hsm
  obtain ⟨hM, h13, h14, h15, h18, hB, hbk, h19, hx⟩ := id hC
  have h120 := hM.1.2.1
  have hn := hk.2.1
  have h1' := hk.1
  have hm5 := zMS_5 hC
  have t1 := M189_n d L p0 p2 r2 r3 s4 C hM hk h14 h15 (by rw [hV]; rfl)
  have p1 := zc1_M (t := t) hM
  have n1 := zm5_c1 hm5
  have k0 : ¬ lg_cmp (zlw T x) (Int64.ofNat 985) = 0 := fun q => by have := (zlw_eq (T := T) hk (k := 985) (by decide) (by decide)).mp q; rw [hV] at this; exact absurd this (by decide)
  have k1 : (lg_cmp (zlw T x) (Int64.ofNat 55175) = 0) = True := eq_true ((zlw_eq (T := T) hk (k := 55175) (by decide) (by decide)).mpr hV)
  obtain ⟨F, t2, f2, f3⟩ := M180 (d + 4) L p0 p2 r2 r3 s4 (zc1 C t) p1 hk.2.1 (by rw [hkind]; decide)
  have n2 := zm5_4 n1 f3
  have fr2 : zFS N j C (zcs (zc1 C t) 401 F) := zFS_t zc1_F (zFS_M f3) (Nat.le_refl _) (Nat.le_refl _)
  obtain ⟨C2, hC2⟩ : ∃ C2, C2 = zcs (zc1 C t) 401 F := ⟨_, rfl⟩
  rcases f2 with ⟨e5, f2⟩ | ⟨e5, _⟩
  case inr => exact absurd e5 hx5
  rw [← hC2] at t2 f2 n2 fr2
  have ha2 := zadv_k T n x2 hk2.2.1
  have hlt2 := hk2.2.2.2.2.1 (by rw [h44.1]; decide)
  rcases MX_t d L p0 p2 r2 r3 s4 C2 f2 n2.2.1 (by omega) (by have := ha.1.1; have := ha.1.2.1; omega) hk2 hq hns with ⟨zb, _⟩ | ⟨e6, C3, t3, m3, m14, mw, mf⟩
  · exfalso
    rcases zb with q | q
    · rw [h44.1] at q; exact absurd q (by decide)
    · unfold zsgn at q
      rw [if_pos h44.1, h44.2] at q
      exact absurd q (by decide)
  have n3 := zm5_E n2 mf m14
  have fr3 : zFS N j C C3 := zFS_t fr2 (zFS_E mf) (Nat.le_refl _) (Nat.le_refl _)
  have t4 : zR (d + 6) 183 0 [.ref 201, .int 44] [] (zZ L, zI C3, zPd p0 p2 r2 r3 s4) = _ := M183_y (d + 6) L p0 p2 r2 r3 s4 C3 m3 hk2 h44
  obtain ⟨F', t5, g2, g3⟩ := M180 (d + 4) L p0 p2 r2 r3 s4 C3 m3 hk2.2.1 (by rw [h44.1]; decide)
  rcases g2 with ⟨e7, g2⟩ | ⟨e7, _⟩
  case inr => exact absurd e7 (zadv_n5 h44.1)
  have n4 := zm5_4 n3 g3
  have fr4 : zFS N j C (zcs C3 401 F') := zFS_t fr3 (zFS_M g3) (Nat.le_refl _) (Nat.le_refl _)
  have mw4 : zmr ((zcs C3 401 F') 406 0) j ws := by rw [zcs_n _ _ (by decide)]; exact mw
  obtain ⟨C4, hC4⟩ : ∃ C4, C4 = zcs C3 401 F' := ⟨_, rfl⟩
  rw [← hC4] at t5 g2 n4 fr4 mw4
  have hx3 : (zadv T n x2).1 ≤ 120 := by have := ha2.1.1; have := ha2.1.2.1; omega
  rcases MX_t d L p0 p2 r2 r3 s4 C4 g2 n4.2.1 (by omega) hx3 hk4 hq2 hns2 with ⟨zb, C5, t6, b5⟩ | ⟨e8, C5, t6, m5, m54, m5w, m5f⟩
  · have b13 : C5 401 0 13 = nI N := by rw [b5.2.2.1.2.1 13 (by decide) (by decide) (by decide) (by decide) (by decide) (by decide) (by decide) (by decide) (by decide)]; exact n4.1
    have t7 := M185 (d + 6) L p0 p2 r2 r3 s4 C5 (N := N) (by omega) b13 2 (nI j) (nI (j + ws.length)) (C5 401 0 14)
    have hr : zR (d + 7) 189 0 [.ref 201, zmk, zmk, zmk, zmk, zmk] [] (zZ L, zI C, zPd p0 p2 r2 r3 s4) = some (none, (zZ L, zI (zsp C5 N 2 (nI j) (nI (j + ws.length)) (C5 401 0 14)), zPd p0 p2 r2 r3 s4)) := by
      rw [t1]
      unfold l89
      simp +decide (disch := omega) only [e189_51, e189_63, e189_85, e189_98, t187_aim, t187_burn, k0, k1, e189_102, e189_106, e189_110, e189_122, e189_129, e189_133, e189_137, e189_150, e189_300, t2, t3, t4, t5, t6, t7, m14, List.cons_append, List.nil_append, zpre, ite_self, Nat.reduceAdd, zs1, zs2, zs3, zI_eqb, and_self, not_true_eq_false, if_true, if_false, ite_true, ite_false, not_false_eq_true, zBP, zBZ, zisO, zisA, zlen, decide_true, decide_false, Bool.and_self, Bool.and_true, Bool.true_and, cond_true, cond_false, zBG, zBR, zBU, zBV, zinb_n, zix_n, zlA, zlB, zlM, zlN, zlX, zlI, nI_add, Nat.add_eq_zero_iff, false_and, and_false, and_true, true_and, true_or, or_true, false_or, or_false, zbool_i, zb0, zb1, zshp_0, zcs_eq, zcs_n, zcs_cs, zup_g, zup_n, zg_srock2, zg_stug2, zg_ssun, zg_ssun0, zg_srock, zg_srock0, zg_stug, zg_stug0, zg_sord, zg_sord0, zg_srep, zg_srep0, zg_scla, zg_scla0, zg_scon, zg_scon0, zg_swin, zg_swin0, zg_sleg, zg_sleg0, zg_spro, zg_sstp, zg_swrd, zu_srock2, zu_stug2, zu_ssun, zu_ssun0, zu_srock, zu_srock0, zu_stug, zu_stug0, zu_sord, zu_sord0, zu_srep, zu_srep0, zu_scla, zu_scla0, zu_scon, zu_scon0, zu_swin, zu_swin0, zu_sleg, zu_sleg0, zu_spro, zu_sstp, zu_swrd]
    exact Or.inl ⟨zb, _, (H_s d L p0 p2 r2 r3 s4 C _ hk hC hsm hr).trans (H_bad d L p0 p2 r2 r3 s4 _ (by rw [zsp_f (by decide)]; exact b5.1)), zBm_sp (zBm_t fr4 (zBm_d b5))⟩
  · have n5 := zm5_E n4 m5f m54
    have t7 := M185 (d + 6) L p0 p2 r2 r3 s4 C5 (N := N) (by omega) n5.1 2 (nI j) (nI (j + ws.length)) (nI (j + ws.length + w2.length))
    have hr : zR (d + 7) 189 0 [.ref 201, zmk, zmk, zmk, zmk, zmk] [] (zZ L, zI C, zPd p0 p2 r2 r3 s4) = some (none, (zZ L, zI (zsp C5 N 2 (nI j) (nI (j + ws.length)) (nI (j + ws.length + w2.length))), zPd p0 p2 r2 r3 s4)) := by
      rw [t1]
      unfold l89
      simp +decide (disch := omega) only [e189_51, e189_63, e189_85, e189_98, t187_aim, t187_burn, k0, k1, e189_102, e189_106, e189_110, e189_122, e189_129, e189_133, e189_137, e189_150, e189_300, t2, t3, t4, t5, t6, t7, m14, List.cons_append, List.nil_append, m54, zpre, ite_self, Nat.reduceAdd, zs1, zs2, zs3, zI_eqb, and_self, not_true_eq_false, if_true, if_false, ite_true, ite_false, not_false_eq_true, zBP, zBZ, zisO, zisA, zlen, decide_true, decide_false, Bool.and_self, Bool.and_true, Bool.true_and, cond_true, cond_false, zBG, zBR, zBU, zBV, zinb_n, zix_n, zlA, zlB, zlM, zlN, zlX, zlI, nI_add, Nat.add_eq_zero_iff, false_and, and_false, and_true, true_and, true_or, or_true, false_or, or_false, zbool_i, zb0, zb1, zshp_0, zcs_eq, zcs_n, zcs_cs, zup_g, zup_n, zg_srock2, zg_stug2, zg_ssun, zg_ssun0, zg_srock, zg_srock0, zg_stug, zg_stug0, zg_sord, zg_sord0, zg_srep, zg_srep0, zg_scla, zg_scla0, zg_scon, zg_scon0, zg_swin, zg_swin0, zg_sleg, zg_sleg0, zg_spro, zg_sstp, zg_swrd, zu_srock2, zu_stug2, zu_ssun, zu_ssun0, zu_srock, zu_srock0, zu_stug, zu_stug0, zu_sord, zu_sord0, zu_srep, zu_srep0, zu_scla, zu_scla0, zu_scon, zu_scon0, zu_swin, zu_swin0, zu_sleg, zu_sleg0, zu_spro, zu_sstp, zu_swrd]
    rw [← Nat.add_assoc]
    refine Or.inr ⟨e8, _, H_s d L p0 p2 r2 r3 s4 C _ hk hC hsm hr, ?_, zFS_t fr4 (zFS_t (zFS_w (zFS_E m5f) (Nat.le_refl N) (by omega)) (zFS_w zFS_st (Nat.le_refl _) (Nat.le_refl j)) (Nat.le_refl _) (Nat.le_refl _)) (Nat.le_refl _) (Nat.le_refl _), ⟨zsp_s, ?_, trivial⟩⟩
    · have := zMS_of (zPM_sp m5) (zm5_sp n5 (o := 2) (a := nI j) (b := nI (j + ws.length)) (c := nI (j + ws.length + w2.length))) (x := x4) (by omega)
      have e9 : j + zwc [(ws ++ w2, ((2 : Int32), nI j, nI (j + ws.length), nI (j + ws.length + w2.length)), ((1 : Int32), (0 : Int32)))] = j + ws.length + w2.length := by simp only [zwc, List.length_append]; omega
      rw [e9]
      exact this
    · rw [zsp_g (by decide) (by decide)]
      exact zmr_app.mpr ⟨zmr_c (fun i _ hi => m5f.2.2 i (by omega)) mw4, m5w⟩

