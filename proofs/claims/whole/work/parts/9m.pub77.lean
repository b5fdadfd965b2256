/-! THE PROGRAM: S in the model (3), printed by wip/gen/pub77.py -/
theorem zFS_r (N j : Nat) (C : zCt) : zFS N j C C := ⟨fun _ _ _ _ _ _ _ => rfl, fun _ _ _ _ _ _ _ _ _ _ _ _ _ _ => rfl, fun _ _ => rfl, fun _ _ => rfl⟩
theorem zFS_w {N j N' j' : Nat} {C C' : zCt} (h : zFS N j C C') (hN : N' ≤ N) (hj : j' ≤ j) : zFS N' j' C C' := ⟨h.1, h.2.1, fun i hi => h.2.2.1 i (by omega), fun i hi => h.2.2.2 i (by omega)⟩
def zm5 (C : zCt) (N j t : Nat) (B : List (Nat × Nat)) (sm : Int32) : Prop := C 401 0 13 = nI N ∧ C 401 0 14 = nI j ∧ C 401 0 15 = nI t ∧ C 401 0 18 = nI B.length ∧ B.length ≤ 4 ∧ zbk (C 407 0) (C 408 0) B ∧ C 401 0 19 = sm
theorem zMS_of {T : Nat → Nat} {n : Nat} {C : zCt} {x : zLx} {N j t : Nat} {B : List (Nat × Nat)} {sm : Int32} (h1 : zPM T n C x) (h2 : zm5 C N j t B sm) (h3 : N + j ≤ x.1) : zMS T n C x N j t B sm := ⟨h1, h2.1, h2.2.1, h2.2.2.1, h2.2.2.2.1, h2.2.2.2.2.1, h2.2.2.2.2.2.1, h2.2.2.2.2.2.2, h3⟩
theorem zMS_5 {T : Nat → Nat} {n : Nat} {C : zCt} {x : zLx} {N j t : Nat} {B : List (Nat × Nat)} {sm : Int32} (h : zMS T n C x N j t B sm) : zm5 C N j t B sm := ⟨h.2.1, h.2.2.1, h.2.2.2.1, h.2.2.2.2.1, h.2.2.2.2.2.1, h.2.2.2.2.2.2.1, h.2.2.2.2.2.2.2.1⟩
theorem zm5_4 {C : zCt} {N j t : Nat} {B : List (Nat × Nat)} {sm : Int32} (h : zm5 C N j t B sm) {F : zGp} (hF : ∀ f, f ≠ 5 → f ≠ 6 → f ≠ 8 → f ≠ 9 → f ≠ 10 → F 0 f = C 401 0 f) : zm5 (zcs C 401 F) N j t B sm := by
  unfold zm5 at *
  rw [zcs_eq, zcs_n _ _ (by decide), zcs_n _ _ (by decide), hF 13 (by decide) (by decide) (by decide) (by decide) (by decide), hF 14 (by decide) (by decide) (by decide) (by decide) (by decide), hF 15 (by decide) (by decide) (by decide) (by decide) (by decide), hF 18 (by decide) (by decide) (by decide) (by decide) (by decide), hF 19 (by decide) (by decide) (by decide) (by decide) (by decide)]
  exact h
theorem zm5_c1 {C : zCt} {N j t : Nat} {B : List (Nat × Nat)} {sm : Int32} (h : zm5 C N j t B sm) : zm5 (zc1 C t) N j (t + 1) B 1 := by
  unfold zm5 at *
  rw [zc1_15.1, zc1_15.2, zc1_f (f := 13) (by decide) (by decide), zc1_f (f := 14) (by decide) (by decide), zc1_f (f := 18) (by decide) (by decide), zc1_g (by decide), zc1_g (by decide)]
  exact ⟨h.1, h.2.1, rfl, h.2.2.2.1, h.2.2.2.2.1, h.2.2.2.2.2.1, rfl⟩
theorem zm5_sp {C : zCt} {N j t : Nat} {B : List (Nat × Nat)} {sm : Int32} (h : zm5 C N j t B sm) {o a b c : Int32} : zm5 (zsp C N o a b c) (N + 1) j t B sm := by
  unfold zm5 at *
  rw [zsp_13, zsp_f (by decide), zsp_f (by decide), zsp_f (by decide), zsp_f (by decide), zsp_g (by decide) (by decide), zsp_g (by decide) (by decide)]
  exact ⟨rfl, h.2⟩
theorem zm5_E {C C' : zCt} {N j j' t : Nat} {B : List (Nat × Nat)} {sm : Int32} (h : zm5 C N j t B sm) {k : Nat} (hF : zFE k C C') (h14 : C' 401 0 14 = nI j') : zm5 C' N j' t B sm := by
  have q : ∀ f, f = 13 ∨ f = 15 ∨ f = 18 ∨ f = 19 → C' 401 0 f = C 401 0 f := fun f hf => hF.2.1 f (by omega) (by omega) (by omega) (by omega) (by omega) (by omega) (by omega) (by omega) (by omega)
  unfold zm5 at *
  rw [q 13 (by omega), q 15 (by omega), q 18 (by omega), q 19 (by omega), hF.1 407 (by decide) (by decide) (by decide), hF.1 408 (by decide) (by decide) (by decide)]
  exact ⟨h.1, h14, h.2.2⟩
theorem zFS_M {N j : Nat} {C : zCt} {F : zGp} (hF : ∀ f, f ≠ 5 → f ≠ 6 → f ≠ 8 → f ≠ 9 → f ≠ 10 → F 0 f = C 401 0 f) : zFS N j C (zcs C 401 F) := zFS_4 (fun f a0 a1 a2 a3 a4 a5 a6 a7 a8 a9 a10 a11 a12 => hF f a0 a1 a2 a3 a4)
theorem zPM_sp {T : Nat → Nat} {n N : Nat} {C : zCt} {x : zLx} (h : zPM T n C x) {o a b c : Int32} : zPM T n (zsp C N o a b c) x := by
  unfold zPM zMT at *
  rw [zsp_f (by decide), zsp_f (by decide), zsp_f (by decide), zsp_f (by decide), zsp_f (by decide), zsp_g (by decide) (by decide)]
  exact h
theorem zBm_sp {C C' : zCt} {N f : Nat} {o a b c : Int32} (h : zBm C C' f) : zBm C (zsp C' N o a b c) f := ⟨by rw [zsp_f (by decide)]; exact h.1, by rw [zsp_f (by decide)]; exact h.2.1, zFS_t h.2.2 (zFS_w zFS_st (Nat.zero_le _) (Nat.le_refl 0)) (Nat.le_refl _) (Nat.le_refl _)⟩
/-- a word that wants an E or a number is passed -/
theorem M191_b (d L p0 p2 r2 r3 s4 : Nat) (C : zCt) {T : Nat → Nat} {n : Nat} (h : zMT T n C) (h10 : C 401 0 10 = 1) {f t : Nat} (h5 : C 401 0 5 = nI f) (h6 : C 401 0 6 = nI t) (hft : f ≤ t) (htn : t ≤ n) (h8 : C 401 0 8 = 1 ∨ C 401 0 8 = 2) : ∃ v, zR (d + 1) 191 0 [.ref 201, zmk, zmk] [] (zZ L, zI C, zPd p0 p2 r2 r3 s4) = some (some (.int v), (zZ L, zI C, zPd p0 p2 r2 r3 s4)) := by
  have h120 := h.2.1
  have tw := M182b d L p0 p2 r2 r3 s4 C h10
  have tn := M180b d L p0 p2 r2 r3 s4 C h10 zmk zmk
  have es : nI t - nI f = nI (t - f) := nI_sub hft
  rcases h8 with h8 | h8
  · refine ⟨0, ?_⟩
    simp +decide (disch := omega) only [e191_0, e191_21, e191_25, h8, tw, zpre, ite_self, Nat.reduceAdd, zs1, zs2, zs3, zI_eqb, and_self, not_true_eq_false, if_true, if_false, ite_true, ite_false, not_false_eq_true, zBP, zBZ, zisO, zisA, zlen, decide_true, decide_false, Bool.and_self, Bool.and_true, Bool.true_and, cond_true, cond_false, zBG, zBR, zBU, zBV, zinb_n, zix_n, zlA, zlB, zlM, zlN, zlX, zlI, nI_add, Nat.add_eq_zero_iff, false_and, and_false, and_true, true_and, true_or, or_true, false_or, or_false, zbool_i, zb0, zb1, zshp_0, zcs_eq, zcs_n, zcs_cs, zup_g, zup_n, zg_srock2, zg_stug2, zg_ssun, zg_ssun0, zg_srock, zg_srock0, zg_stug, zg_stug0, zg_sord, zg_sord0, zg_srep, zg_srep0, zg_scla, zg_scla0, zg_scon, zg_scon0, zg_swin, zg_swin0, zg_sleg, zg_sleg0, zg_spro, zg_sstp, zg_swrd, zu_srock2, zu_stug2, zu_ssun, zu_ssun0, zu_srock, zu_srock0, zu_stug, zu_stug0, zu_sord, zu_sord0, zu_srep, zu_srep0, zu_scla, zu_scla0, zu_scon, zu_scon0, zu_swin, zu_swin0, zu_sleg, zu_sleg0, zu_spro, zu_sstp, zu_swrd]
  · by_cases c : t - f ≤ 5
    · have c1 : nI (t - f) ≤ 5 := nI_le (b := 5) c (by decide)
      have q := M191_l (d + 1) L p0 p2 r2 r3 s4 C h htn h6 (t - f) f 0 (by omega)
      refine ⟨zvl T (t - f) f 0, ?_⟩
      simp +decide (disch := omega) only [e191_0, e191_8, e191_27, e191_63, e191_67, h8, h5, h6, es, c1, q, tn, zpre, ite_self, Nat.reduceAdd, zs1, zs2, zs3, zI_eqb, and_self, not_true_eq_false, if_true, if_false, ite_true, ite_false, not_false_eq_true, zBP, zBZ, zisO, zisA, zlen, decide_true, decide_false, Bool.and_self, Bool.and_true, Bool.true_and, cond_true, cond_false, zBG, zBR, zBU, zBV, zinb_n, zix_n, zlA, zlB, zlM, zlN, zlX, zlI, nI_add, Nat.add_eq_zero_iff, false_and, and_false, and_true, true_and, true_or, or_true, false_or, or_false, zbool_i, zb0, zb1, zshp_0, zcs_eq, zcs_n, zcs_cs, zup_g, zup_n, zg_srock2, zg_stug2, zg_ssun, zg_ssun0, zg_srock, zg_srock0, zg_stug, zg_stug0, zg_sord, zg_sord0, zg_srep, zg_srep0, zg_scla, zg_scla0, zg_scon, zg_scon0, zg_swin, zg_swin0, zg_sleg, zg_sleg0, zg_spro, zg_sstp, zg_swrd, zu_srock2, zu_stug2, zu_ssun, zu_ssun0, zu_srock, zu_srock0, zu_stug, zu_stug0, zu_sord, zu_sord0, zu_srep, zu_srep0, zu_scla, zu_scla0, zu_scon, zu_scon0, zu_swin, zu_swin0, zu_sleg, zu_sleg0, zu_spro, zu_sstp, zu_swrd]
    · have c1 : ¬ nI (t - f) ≤ 5 := nI_ge (a := 5) (by omega) (by omega)
      refine ⟨0, ?_⟩
      simp +decide (disch := omega) only [e191_0, e191_8, e191_21, e191_25, h8, h5, h6, es, c1, tw, zpre, ite_self, Nat.reduceAdd, zs1, zs2, zs3, zI_eqb, and_self, not_true_eq_false, if_true, if_false, ite_true, ite_false, not_false_eq_true, zBP, zBZ, zisO, zisA, zlen, decide_true, decide_false, Bool.and_self, Bool.and_true, Bool.true_and, cond_true, cond_false, zBG, zBR, zBU, zBV, zinb_n, zix_n, zlA, zlB, zlM, zlN, zlX, zlI, nI_add, Nat.add_eq_zero_iff, false_and, and_false, and_true, true_and, true_or, or_true, false_or, or_false, zbool_i, zb0, zb1, zshp_0, zcs_eq, zcs_n, zcs_cs, zup_g, zup_n, zg_srock2, zg_stug2, zg_ssun, zg_ssun0, zg_srock, zg_srock0, zg_stug, zg_stug0, zg_sord, zg_sord0, zg_srep, zg_srep0, zg_scla, zg_scla0, zg_scon, zg_scon0, zg_swin, zg_swin0, zg_sleg, zg_sleg0, zg_spro, zg_sstp, zg_swrd, zu_srock2, zu_stug2, zu_ssun, zu_ssun0, zu_srock, zu_srock0, zu_stug, zu_stug0, zu_sord, zu_sord0, zu_srep, zu_srep0, zu_scla, zu_scla0, zu_scon, zu_scon0, zu_swin, zu_swin0, zu_sleg, zu_sleg0, zu_spro, zu_sstp, zu_swrd]

theorem P_aimt (L p0 p2 r2 r3 s4 : Nat) (T : Nat → Nat) (n : Nat) (x : zLx) (be N j : Nat) (hk : zTk T n x) (hV : zV T x = zWK 0) (hk2 : (zadv T n x).2.2 = 2) : zPt L p0 p2 r2 r3 s4 T n x be N j [([], (1, zvl T ((zadv T n x).2.1 - (zadv T n x).1) (zadv T n x).1 0, 0, 0), (0, zvl T ((zadv T n x).2.1 - (zadv T n x).1) (zadv T n x).1 0))] 1 (zadv T n (zadv T n x)) := by
  have hx5 : (zadv T n x).2.2 ≠ 5 := by rw [hk2]; decide
  have hkind := zV_1 (by omega) hV
  have ha := zadv_k T n x hk.2.1
  have hlt := hk.2.2.2.2.1 (by rw [hkind]; decide)
  intro d C t B sm hbe hC hsm
  obtain ⟨hM, h13, h14, h15, h18, hB, hbk, h19, hx⟩ := id hC
  have h120 := hM.1.2.1
  have hn := hk.2.1
  have h1' := hk.1
  have hm5 := zMS_5 hC
  have t1 := M189_n d L p0 p2 r2 r3 s4 C hM hk h14 h15 (by rw [hV]; rfl)
  have p1 := zc1_M (t := t) hM
  have n1 := zm5_c1 hm5
  have k0 : (lg_cmp (zlw T x) (Int64.ofNat 985) = 0) = True := eq_true ((zlw_eq (T := T) hk (k := 985) (by decide) (by decide)).mpr hV)
  obtain ⟨F, t2, f2, f3⟩ := M180 (d + 4) L p0 p2 r2 r3 s4 (zc1 C t) p1 hk.2.1 (by rw [hkind]; decide)
  have n2 := zm5_4 n1 f3
  have fr2 : zFS N j C (zcs (zc1 C t) 401 F) := zFS_t zc1_F (zFS_M f3) (Nat.le_refl _) (Nat.le_refl _)
  obtain ⟨C2, hC2⟩ : ∃ C2, C2 = zcs (zc1 C t) 401 F := ⟨_, rfl⟩
  rcases f2 with ⟨e5, f2⟩ | ⟨e5, _⟩
  case inr => exact absurd e5 hx5
  rw [← hC2] at t2 f2 n2 fr2
  have ha1 := zadv_k T n (zadv T n x) ha.1.2.1
  have hlt1 := ha.1.2.2.2.2.1 (by rw [hk2]; decide)
  obtain ⟨v, hv⟩ : ∃ v, v = zvl T ((zadv T n x).2.1 - (zadv T n x).1) (zadv T n x).1 0 := ⟨_, rfl⟩
  obtain ⟨F', t3, g2, g3⟩ := M191_y (d + 3) L p0 p2 r2 r3 s4 C2 f2 ha.1 hk2
  rw [← hv] at t3 ⊢
  have n3 := zm5_4 n2 g3
  have t4 := M185 (d + 6) L p0 p2 r2 r3 s4 (zcs C2 401 F') (N := N) (by omega) n3.1 1 v 0 0
  have fr3 : zFS N j C (zcs C2 401 F') := zFS_t fr2 (zFS_M g3) (Nat.le_refl _) (Nat.le_refl _)
  have hr : zR (d + 7) 189 0 [.ref 201, zmk, zmk, zmk, zmk, zmk] [] (zZ L, zI C, zPd p0 p2 r2 r3 s4) = some (none, (zZ L, zI (zsp (zcs C2 401 F') N 1 v 0 0), zPd p0 p2 r2 r3 s4)) := by
    rw [t1]
    unfold l89
    simp +decide (disch := omega) only [e189_51, e189_63, t187_aim, k0, e189_67, e189_71, e189_77, e189_82, e189_300, t2, t3, t4, List.cons_append, List.nil_append, zpre, ite_self, Nat.reduceAdd, zs1, zs2, zs3, zI_eqb, and_self, not_true_eq_false, if_true, if_false, ite_true, ite_false, not_false_eq_true, zBP, zBZ, zisO, zisA, zlen, decide_true, decide_false, Bool.and_self, Bool.and_true, Bool.true_and, cond_true, cond_false, zBG, zBR, zBU, zBV, zinb_n, zix_n, zlA, zlB, zlM, zlN, zlX, zlI, nI_add, Nat.add_eq_zero_iff, false_and, and_false, and_true, true_and, true_or, or_true, false_or, or_false, zbool_i, zb0, zb1, zshp_0, zcs_eq, zcs_n, zcs_cs, zup_g, zup_n, zg_srock2, zg_stug2, zg_ssun, zg_ssun0, zg_srock, zg_srock0, zg_stug, zg_stug0, zg_sord, zg_sord0, zg_srep, zg_srep0, zg_scla, zg_scla0, zg_scon, zg_scon0, zg_swin, zg_swin0, zg_sleg, zg_sleg0, zg_spro, zg_sstp, zg_swrd, zu_srock2, zu_stug2, zu_ssun, zu_ssun0, zu_srock, zu_srock0, zu_stug, zu_stug0, zu_sord, zu_sord0, zu_srep, zu_srep0, zu_scla, zu_scla0, zu_scon, zu_scon0, zu_swin, zu_swin0, zu_sleg, zu_sleg0, zu_spro, zu_sstp, zu_swrd]
  rcases g2 with ⟨e6, g2⟩ | ⟨e6, g4, g5, _⟩
  · refine Or.inr ⟨e6, _, H_s d L p0 p2 r2 r3 s4 C _ hk hC hsm hr, zMS_of (zPM_sp g2) (zm5_sp n3) (by simp only [List.length_cons, List.length_nil, zwc]; omega), zFS_t fr3 zFS_st (Nat.le_refl _) (Nat.le_refl _), ⟨zsp_s, trivial, trivial⟩⟩
  · have b4 : zBm C (zsp (zcs C2 401 F') N 1 v 0 0) (zadv T n (zadv T n x)).1 := zBm_sp ⟨by rw [zcs_eq]; exact g4, by rw [zcs_eq]; exact g5, zFS_w fr3 (Nat.zero_le _) (Nat.zero_le _)⟩
    exact Or.inl ⟨Or.inl e6, _, (H_s d L p0 p2 r2 r3 s4 C _ hk hC hsm hr).trans (H_bad d L p0 p2 r2 r3 s4 _ b4.1), b4⟩
theorem P_aimf (L p0 p2 r2 r3 s4 : Nat) (T : Nat → Nat) (n : Nat) (x : zLx) (be N j : Nat) (hk : zTk T n x) (hV : zV T x = zWK 0) (hx5 : (zadv T n x).2.2 ≠ 5) (hk2 : (zadv T n x).2.2 ≠ 2) : zPf L p0 p2 r2 r3 s4 T n x be N j (zadv T n x) := by
  have hkind := zV_1 (by omega) hV
  have ha := zadv_k T n x hk.2.1
  have hlt := hk.2.2.2.2.1 (by rw [hkind]; decide)
  intro d C t B sm hbe hC hsm
  obtain ⟨hM, h13, h14, h15, h18, hB, hbk, h19, hx⟩ := id hC
  have h120 := hM.1.2.1
  have hn := hk.2.1
  have h1' := hk.1
  have hm5 := zMS_5 hC
  have t1 := M189_n d L p0 p2 r2 r3 s4 C hM hk h14 h15 (by rw [hV]; rfl)
  have p1 := zc1_M (t := t) hM
  have n1 := zm5_c1 hm5
  have k0 : (lg_cmp (zlw T x) (Int64.ofNat 985) = 0) = True := eq_true ((zlw_eq (T := T) hk (k := 985) (by decide) (by decide)).mpr hV)
  obtain ⟨F, t2, f2, f3⟩ := M180 (d + 4) L p0 p2 r2 r3 s4 (zc1 C t) p1 hk.2.1 (by rw [hkind]; decide)
  have n2 := zm5_4 n1 f3
  have fr2 : zFS N j C (zcs (zc1 C t) 401 F) := zFS_t zc1_F (zFS_M f3) (Nat.le_refl _) (Nat.le_refl _)
  obtain ⟨C2, hC2⟩ : ∃ C2, C2 = zcs (zc1 C t) 401 F := ⟨_, rfl⟩
  rcases f2 with ⟨e5, f2⟩ | ⟨e5, _⟩
  case inr => exact absurd e5 hx5
  rw [← hC2] at t2 f2 n2 fr2
  have t3 := M191_n (d + 5) L p0 p2 r2 r3 s4 C2 f2 ha.1 hk2
  obtain ⟨C3, hC3⟩ : ∃ C3, C3 = zcs C2 401 (zup (zup (C2 401) 0 9 (nI (zadv T n x).1)) 0 10 1) := ⟨_, rfl⟩
  rw [← hC3] at t3
  have b3 : zBm C C3 (zadv T n x).1 := by rw [hC3]; exact zBm_t fr2 (zbm_wr (T := T) (n := n) f2.2.2.1)
  have b13 : C3 401 0 13 = nI N := by rw [hC3, zcs_eq, zup_n _ _ (by omega), zup_n _ _ (by omega)]; exact n2.1
  have t4 := M185 (d + 6) L p0 p2 r2 r3 s4 C3 (N := N) (by omega) b13 1 0 0 0
  have hr : zR (d + 7) 189 0 [.ref 201, zmk, zmk, zmk, zmk, zmk] [] (zZ L, zI C, zPd p0 p2 r2 r3 s4) = some (none, (zZ L, zI (zsp C3 N 1 0 0 0), zPd p0 p2 r2 r3 s4)) := by
    rw [t1]
    unfold l89
    simp +decide (disch := omega) only [e189_51, e189_63, t187_aim, k0, e189_67, e189_71, e189_77, e189_82, e189_300, t2, t3, t4, List.cons_append, List.nil_append, zpre, ite_self, Nat.reduceAdd, zs1, zs2, zs3, zI_eqb, and_self, not_true_eq_false, if_true, if_false, ite_true, ite_false, not_false_eq_true, zBP, zBZ, zisO, zisA, zlen, decide_true, decide_false, Bool.and_self, Bool.and_true, Bool.true_and, cond_true, cond_false, zBG, zBR, zBU, zBV, zinb_n, zix_n, zlA, zlB, zlM, zlN, zlX, zlI, nI_add, Nat.add_eq_zero_iff, false_and, and_false, and_true, true_and, true_or, or_true, false_or, or_false, zbool_i, zb0, zb1, zshp_0, zcs_eq, zcs_n, zcs_cs, zup_g, zup_n, zg_srock2, zg_stug2, zg_ssun, zg_ssun0, zg_srock, zg_srock0, zg_stug, zg_stug0, zg_sord, zg_sord0, zg_srep, zg_srep0, zg_scla, zg_scla0, zg_scon, zg_scon0, zg_swin, zg_swin0, zg_sleg, zg_sleg0, zg_spro, zg_sstp, zg_swrd, zu_srock2, zu_stug2, zu_ssun, zu_ssun0, zu_srock, zu_srock0, zu_stug, zu_stug0, zu_sord, zu_sord0, zu_srep, zu_srep0, zu_scla, zu_scla0, zu_scon, zu_scon0, zu_swin, zu_swin0, zu_sleg, zu_sleg0, zu_spro, zu_sstp, zu_swrd]
  exact ⟨_, (H_s d L p0 p2 r2 r3 s4 C _ hk hC hsm hr).trans (H_bad d L p0 p2 r2 r3 s4 _ (zBm_sp b3).1), zBm_sp b3⟩
theorem P_aim5 (L p0 p2 r2 r3 s4 : Nat) (T : Nat → Nat) (n : Nat) (x : zLx) (be N j : Nat) (hk : zTk T n x) (hV : zV T x = zWK 0) (hx5 : (zadv T n x).2.2 = 5) : zPf L p0 p2 r2 r3 s4 T n x be N j (zadv T n x) := by
  have hkind := zV_1 (by omega) hV
  have ha := zadv_k T n x hk.2.1
  have hlt := hk.2.2.2.2.1 (by rw [hkind]; decide)
  intro d C t B sm hbe hC hsm
  obtain ⟨hM, h13, h14, h15, h18, hB, hbk, h19, hx⟩ := id hC
  have h120 := hM.1.2.1
  have hn := hk.2.1
  have h1' := hk.1
  have hm5 := zMS_5 hC
  have t1 := M189_n d L p0 p2 r2 r3 s4 C hM hk h14 h15 (by rw [hV]; rfl)
  have p1 := zc1_M (t := t) hM
  have n1 := zm5_c1 hm5
  have k0 : (lg_cmp (zlw T x) (Int64.ofNat 985) = 0) = True := eq_true ((zlw_eq (T := T) hk (k := 985) (by decide) (by decide)).mpr hV)
  obtain ⟨F, t2, f2, f3⟩ := M180 (d + 4) L p0 p2 r2 r3 s4 (zc1 C t) p1 hk.2.1 (by rw [hkind]; decide)
  have n2 := zm5_4 n1 f3
  have fr2 : zFS N j C (zcs (zc1 C t) 401 F) := zFS_t zc1_F (zFS_M f3) (Nat.le_refl _) (Nat.le_refl _)
  obtain ⟨C2, hC2⟩ : ∃ C2, C2 = zcs (zc1 C t) 401 F := ⟨_, rfl⟩
  rcases f2 with ⟨e5, _⟩ | ⟨_, f4, f5, f6, f7, f8⟩
  case inl => exact absurd hx5 e5
  have b2 : zBm C C2 (zadv T n x).1 := ⟨by rw [hC2, zcs_eq]; exact f4, by rw [hC2, zcs_eq]; exact f5, by rw [hC2]; exact zFS_w fr2 (Nat.zero_le _) (Nat.zero_le _)⟩
  have b13 : C2 401 0 13 = nI N := by rw [hC2]; exact n2.1
  rw [← hC2] at t2
  obtain ⟨v, t3⟩ := M191_b (d + 5) L p0 p2 r2 r3 s4 C2 (T := T) (n := n) (by rw [hC2]; exact zMT_up p1.1 (f3 7 (by decide) (by decide) (by decide) (by decide) (by decide))) b2.1 (by rw [hC2, zcs_eq]; exact f6) (by rw [hC2, zcs_eq]; exact f7) ha.1.1 ha.1.2.1 (by rw [hC2, zcs_eq]; exact f8)
  have t4 := M185 (d + 6) L p0 p2 r2 r3 s4 C2 (N := N) (by omega) b13 1 v 0 0
  have hr : zR (d + 7) 189 0 [.ref 201, zmk, zmk, zmk, zmk, zmk] [] (zZ L, zI C, zPd p0 p2 r2 r3 s4) = some (none, (zZ L, zI (zsp C2 N 1 v 0 0), zPd p0 p2 r2 r3 s4)) := by
    rw [t1]
    unfold l89
    simp +decide (disch := omega) only [e189_51, e189_63, t187_aim, k0, e189_67, e189_71, e189_77, e189_82, e189_300, t2, t3, t4, List.cons_append, List.nil_append, zpre, ite_self, Nat.reduceAdd, zs1, zs2, zs3, zI_eqb, and_self, not_true_eq_false, if_true, if_false, ite_true, ite_false, not_false_eq_true, zBP, zBZ, zisO, zisA, zlen, decide_true, decide_false, Bool.and_self, Bool.and_true, Bool.true_and, cond_true, cond_false, zBG, zBR, zBU, zBV, zinb_n, zix_n, zlA, zlB, zlM, zlN, zlX, zlI, nI_add, Nat.add_eq_zero_iff, false_and, and_false, and_true, true_and, true_or, or_true, false_or, or_false, zbool_i, zb0, zb1, zshp_0, zcs_eq, zcs_n, zcs_cs, zup_g, zup_n, zg_srock2, zg_stug2, zg_ssun, zg_ssun0, zg_srock, zg_srock0, zg_stug, zg_stug0, zg_sord, zg_sord0, zg_srep, zg_srep0, zg_scla, zg_scla0, zg_scon, zg_scon0, zg_swin, zg_swin0, zg_sleg, zg_sleg0, zg_spro, zg_sstp, zg_swrd, zu_srock2, zu_stug2, zu_ssun, zu_ssun0, zu_srock, zu_srock0, zu_stug, zu_stug0, zu_sord, zu_sord0, zu_srep, zu_srep0, zu_scla, zu_scla0, zu_scon, zu_scon0, zu_swin, zu_swin0, zu_sleg, zu_sleg0, zu_spro, zu_sstp, zu_swrd]
  exact ⟨_, (H_s d L p0 p2 r2 r3 s4 C _ hk hC hsm hr).trans (H_bad d L p0 p2 r2 r3 s4 _ (zBm_sp b2).1), zBm_sp b2⟩
theorem P_untilt (L p0 p2 r2 r3 s4 : Nat) (T : Nat → Nat) (n : Nat) (x : zLx) (be N j : Nat) (hk : zTk T n x) (hV : zV T x = zWK 11) (hx5 : (zadv T n x).2.2 ≠ 5) {ws : List (Int32 × Int32)} {x2 : zLx} (hk2 : zTk T n x2) (hroom : (zadv T n x).1 + ws.length ≤ x2.1) (hq : zQt L p0 p2 r2 r3 s4 T n 0 (zadv T n x) 0 0 ws x2) (hns : zns_ T 1 x2) : zPt L p0 p2 r2 r3 s4 T n x be N j [(ws, (12, nI j, nI (j + ws.length), 0), (11, 0))] 1 x2 := by
  have hkind := zV_1 (by omega) hV
  have ha := zadv_k T n x hk.2.1
  have hlt := hk.2.2.2.2.1 (by rw [hkind]; decide)
  intro d C t B sm hbe hC hsm
  obtain ⟨hM, h13, h14, h15, h18, hB, hbk, h19, hx⟩ := id hC
  have h120 := hM.1.2.1
  have hn := hk.2.1
  have h1' := hk.1
  have hm5 := zMS_5 hC
  have t1 := M189_n d L p0 p2 r2 r3 s4 C hM hk h14 h15 (by rw [hV]; rfl)
  have p1 := zc1_M (t := t) hM
  have n1 := zm5_c1 hm5
  have k0 : ¬ lg_cmp (zlw T x) (Int64.ofNat 985) = 0 := fun q => by have := (zlw_eq (T := T) hk (k := 985) (by decide) (by decide)).mp q; rw [hV] at this; exact absurd this (by decide)
  have k1 : ¬ lg_cmp (zlw T x) (Int64.ofNat 55175) = 0 := fun q => by have := (zlw_eq (T := T) hk (k := 55175) (by decide) (by decide)).mp q; rw [hV] at this; exact absurd this (by decide)
  have k11 : (lg_cmp (zlw T x) (Int64.ofNat 11450658) = 0) = True := eq_true ((zlw_eq (T := T) hk (k := 11450658) (by decide) (by decide)).mpr hV)
  obtain ⟨F, t2, f2, f3⟩ := M180 (d + 4) L p0 p2 r2 r3 s4 (zc1 C t) p1 hk.2.1 (by rw [hkind]; decide)
  have n2 := zm5_4 n1 f3
  have fr2 : zFS N j C (zcs (zc1 C t) 401 F) := zFS_t zc1_F (zFS_M f3) (Nat.le_refl _) (Nat.le_refl _)
  obtain ⟨C2, hC2⟩ : ∃ C2, C2 = zcs (zc1 C t) 401 F := ⟨_, rfl⟩
  rcases f2 with ⟨e5, f2⟩ | ⟨e5, _⟩
  case inr => exact absurd e5 hx5
  rw [← hC2] at t2 f2 n2 fr2
  rcases MX_t d L p0 p2 r2 r3 s4 C2 f2 n2.2.1 (by omega) (by have := ha.1.1; have := ha.1.2.1; omega) hk2 hq hns with ⟨zb, C3, t3, b3⟩ | ⟨e6, C3, t3, m3, m14, mw, mf⟩
  · have b13 : C3 401 0 13 = nI N := by rw [b3.2.2.1.2.1 13 (by decide) (by decide) (by decide) (by decide) (by decide) (by decide) (by decide) (by decide) (by decide)]; exact n2.1
    have t4 := M185 (d + 6) L p0 p2 r2 r3 s4 C3 (N := N) (by omega) b13 12 (nI j) (C3 401 0 14) 0
    have hr : zR (d + 7) 189 0 [.ref 201, zmk, zmk, zmk, zmk, zmk] [] (zZ L, zI C, zPd p0 p2 r2 r3 s4) = some (none, (zZ L, zI (zsp C3 N 12 (nI j) (C3 401 0 14) 0), zPd p0 p2 r2 r3 s4)) := by
      rw [t1]
      unfold l89
      simp +decide (disch := omega) only [e189_51, e189_63, e189_85, e189_98, e189_153, e189_167, t187_aim, t187_burn, t187_until, k0, k1, k11, e189_171, e189_175, e189_179, e189_192, e189_300, t2, t3, t4, List.cons_append, List.nil_append, zpre, ite_self, Nat.reduceAdd, zs1, zs2, zs3, zI_eqb, and_self, not_true_eq_false, if_true, if_false, ite_true, ite_false, not_false_eq_true, zBP, zBZ, zisO, zisA, zlen, decide_true, decide_false, Bool.and_self, Bool.and_true, Bool.true_and, cond_true, cond_false, zBG, zBR, zBU, zBV, zinb_n, zix_n, zlA, zlB, zlM, zlN, zlX, zlI, nI_add, Nat.add_eq_zero_iff, false_and, and_false, and_true, true_and, true_or, or_true, false_or, or_false, zbool_i, zb0, zb1, zshp_0, zcs_eq, zcs_n, zcs_cs, zup_g, zup_n, zg_srock2, zg_stug2, zg_ssun, zg_ssun0, zg_srock, zg_srock0, zg_stug, zg_stug0, zg_sord, zg_sord0, zg_srep, zg_srep0, zg_scla, zg_scla0, zg_scon, zg_scon0, zg_swin, zg_swin0, zg_sleg, zg_sleg0, zg_spro, zg_sstp, zg_swrd, zu_srock2, zu_stug2, zu_ssun, zu_ssun0, zu_srock, zu_srock0, zu_stug, zu_stug0, zu_sord, zu_sord0, zu_srep, zu_srep0, zu_scla, zu_scla0, zu_scon, zu_scon0, zu_swin, zu_swin0, zu_sleg, zu_sleg0, zu_spro, zu_sstp, zu_swrd]
    exact Or.inl ⟨zb, _, (H_s d L p0 p2 r2 r3 s4 C _ hk hC hsm hr).trans (H_bad d L p0 p2 r2 r3 s4 _ (by rw [zsp_f (by decide)]; exact b3.1)), zBm_sp (zBm_t fr2 (zBm_d b3))⟩
  · have n3 := zm5_E n2 mf m14
    have t4 := M185 (d + 6) L p0 p2 r2 r3 s4 C3 (N := N) (by omega) n3.1 12 (nI j) (nI (j + ws.length)) 0
    have hr : zR (d + 7) 189 0 [.ref 201, zmk, zmk, zmk, zmk, zmk] [] (zZ L, zI C, zPd p0 p2 r2 r3 s4) = some (none, (zZ L, zI (zsp C3 N 12 (nI j) (nI (j + ws.length)) 0), zPd p0 p2 r2 r3 s4)) := by
      rw [t1]
      unfold l89
      simp +decide (disch := omega) only [e189_51, e189_63, e189_85, e189_98, e189_153, e189_167, t187_aim, t187_burn, t187_until, k0, k1, k11, e189_171, e189_175, e189_179, e189_192, e189_300, t2, t3, t4, m14, List.cons_append, List.nil_append, zpre, ite_self, Nat.reduceAdd, zs1, zs2, zs3, zI_eqb, and_self, not_true_eq_false, if_true, if_false, ite_true, ite_false, not_false_eq_true, zBP, zBZ, zisO, zisA, zlen, decide_true, decide_false, Bool.and_self, Bool.and_true, Bool.true_and, cond_true, cond_false, zBG, zBR, zBU, zBV, zinb_n, zix_n, zlA, zlB, zlM, zlN, zlX, zlI, nI_add, Nat.add_eq_zero_iff, false_and, and_false, and_true, true_and, true_or, or_true, false_or, or_false, zbool_i, zb0, zb1, zshp_0, zcs_eq, zcs_n, zcs_cs, zup_g, zup_n, zg_srock2, zg_stug2, zg_ssun, zg_ssun0, zg_srock, zg_srock0, zg_stug, zg_stug0, zg_sord, zg_sord0, zg_srep, zg_srep0, zg_scla, zg_scla0, zg_scon, zg_scon0, zg_swin, zg_swin0, zg_sleg, zg_sleg0, zg_spro, zg_sstp, zg_swrd, zu_srock2, zu_stug2, zu_ssun, zu_ssun0, zu_srock, zu_srock0, zu_stug, zu_stug0, zu_sord, zu_sord0, zu_srep, zu_srep0, zu_scla, zu_scla0, zu_scon, zu_scon0, zu_swin, zu_swin0, zu_sleg, zu_sleg0, zu_spro, zu_sstp, zu_swrd]
    refine Or.inr ⟨e6, _, H_s d L p0 p2 r2 r3 s4 C _ hk hC hsm hr, zMS_of (zPM_sp m3) (zm5_sp n3) (by simp only [List.length_cons, List.length_nil, zwc]; omega), zFS_t fr2 (zFS_t (zFS_E mf) (zFS_w zFS_st (Nat.le_refl _) (Nat.le_refl j)) (Nat.le_refl _) (Nat.le_refl _)) (Nat.le_refl _) (Nat.le_refl _), ⟨zsp_s, ?_, trivial⟩⟩
    rw [zsp_g (by decide) (by decide)]
    exact mw
theorem P_untilf (L p0 p2 r2 r3 s4 : Nat) (T : Nat → Nat) (n : Nat) (x : zLx) (be N j : Nat) (hk : zTk T n x) (hV : zV T x = zWK 11) (hx5 : (zadv T n x).2.2 ≠ 5) {x2 : zLx} (hq : zQf L p0 p2 r2 r3 s4 T n 0 (zadv T n x) 0 0 x2) : zPf L p0 p2 r2 r3 s4 T n x be N j x2 := by
  have hkind := zV_1 (by omega) hV
  have ha := zadv_k T n x hk.2.1
  have hlt := hk.2.2.2.2.1 (by rw [hkind]; decide)
  intro d C t B sm hbe hC hsm
  obtain ⟨hM, h13, h14, h15, h18, hB, hbk, h19, hx⟩ := id hC
  have h120 := hM.1.2.1
  have hn := hk.2.1
  have h1' := hk.1
  have hm5 := zMS_5 hC
  have t1 := M189_n d L p0 p2 r2 r3 s4 C hM hk h14 h15 (by rw [hV]; rfl)
  have p1 := zc1_M (t := t) hM
  have n1 := zm5_c1 hm5
  have k0 : ¬ lg_cmp (zlw T x) (Int64.ofNat 985) = 0 := fun q => by have := (zlw_eq (T := T) hk (k := 985) (by decide) (by decide)).mp q; rw [hV] at this; exact absurd this (by decide)
  have k1 : ¬ lg_cmp (zlw T x) (Int64.ofNat 55175) = 0 := fun q => by have := (zlw_eq (T := T) hk (k := 55175) (by decide) (by decide)).mp q; rw [hV] at this; exact absurd this (by decide)
  have k11 : (lg_cmp (zlw T x) (Int64.ofNat 11450658) = 0) = True := eq_true ((zlw_eq (T := T) hk (k := 11450658) (by decide) (by decide)).mpr hV)
  obtain ⟨F, t2, f2, f3⟩ := M180 (d + 4) L p0 p2 r2 r3 s4 (zc1 C t) p1 hk.2.1 (by rw [hkind]; decide)
  have n2 := zm5_4 n1 f3
  have fr2 : zFS N j C (zcs (zc1 C t) 401 F) := zFS_t zc1_F (zFS_M f3) (Nat.le_refl _) (Nat.le_refl _)
  obtain ⟨C2, hC2⟩ : ∃ C2, C2 = zcs (zc1 C t) 401 F := ⟨_, rfl⟩
  rcases f2 with ⟨e5, f2⟩ | ⟨e5, _⟩
  case inr => exact absurd e5 hx5
  rw [← hC2] at t2 f2 n2 fr2
  obtain ⟨C3, t3, b3⟩ := MX_f d L p0 p2 r2 r3 s4 C2 f2 n2.2.1 (by omega) (by have := ha.1.1; have := ha.1.2.1; omega) hq
  have b13 : C3 401 0 13 = nI N := by rw [b3.2.2.1.2.1 13 (by decide) (by decide) (by decide) (by decide) (by decide) (by decide) (by decide) (by decide) (by decide)]; exact n2.1
  have t4 := M185 (d + 6) L p0 p2 r2 r3 s4 C3 (N := N) (by omega) b13 12 (nI j) (C3 401 0 14) 0
  have hr : zR (d + 7) 189 0 [.ref 201, zmk, zmk, zmk, zmk, zmk] [] (zZ L, zI C, zPd p0 p2 r2 r3 s4) = some (none, (zZ L, zI (zsp C3 N 12 (nI j) (C3 401 0 14) 0), zPd p0 p2 r2 r3 s4)) := by
    rw [t1]
    unfold l89
    simp +decide (disch := omega) only [e189_51, e189_63, e189_85, e189_98, e189_153, e189_167, t187_aim, t187_burn, t187_until, k0, k1, k11, e189_171, e189_175, e189_179, e189_192, e189_300, t2, t3, t4, List.cons_append, List.nil_append, zpre, ite_self, Nat.reduceAdd, zs1, zs2, zs3, zI_eqb, and_self, not_true_eq_false, if_true, if_false, ite_true, ite_false, not_false_eq_true, zBP, zBZ, zisO, zisA, zlen, decide_true, decide_false, Bool.and_self, Bool.and_true, Bool.true_and, cond_true, cond_false, zBG, zBR, zBU, zBV, zinb_n, zix_n, zlA, zlB, zlM, zlN, zlX, zlI, nI_add, Nat.add_eq_zero_iff, false_and, and_false, and_true, true_and, true_or, or_true, false_or, or_false, zbool_i, zb0, zb1, zshp_0, zcs_eq, zcs_n, zcs_cs, zup_g, zup_n, zg_srock2, zg_stug2, zg_ssun, zg_ssun0, zg_srock, zg_srock0, zg_stug, zg_stug0, zg_sord, zg_sord0, zg_srep, zg_srep0, zg_scla, zg_scla0, zg_scon, zg_scon0, zg_swin, zg_swin0, zg_sleg, zg_sleg0, zg_spro, zg_sstp, zg_swrd, zu_srock2, zu_stug2, zu_ssun, zu_ssun0, zu_srock, zu_srock0, zu_stug, zu_stug0, zu_sord, zu_sord0, zu_srep, zu_srep0, zu_scla, zu_scla0, zu_scon, zu_scon0, zu_swin, zu_swin0, zu_sleg, zu_sleg0, zu_spro, zu_sstp, zu_swrd]
  exact ⟨_, (H_s d L p0 p2 r2 r3 s4 C _ hk hC hsm hr).trans (H_bad d L p0 p2 r2 r3 s4 _ (by rw [zsp_f (by decide)]; exact b3.1)), zBm_sp (zBm_t fr2 (zBm_d b3))⟩
theorem P_until5 (L p0 p2 r2 r3 s4 : Nat) (T : Nat → Nat) (n : Nat) (x : zLx) (be N j : Nat) (hk : zTk T n x) (hV : zV T x = zWK 11) (hx5 : (zadv T n x).2.2 = 5) : zPf L p0 p2 r2 r3 s4 T n x be N j (zadv T n x) := by
  have hkind := zV_1 (by omega) hV
  have ha := zadv_k T n x hk.2.1
  have hlt := hk.2.2.2.2.1 (by rw [hkind]; decide)
  intro d C t B sm hbe hC hsm
  obtain ⟨hM, h13, h14, h15, h18, hB, hbk, h19, hx⟩ := id hC
  have h120 := hM.1.2.1
  have hn := hk.2.1
  have h1' := hk.1
  have hm5 := zMS_5 hC
  have t1 := M189_n d L p0 p2 r2 r3 s4 C hM hk h14 h15 (by rw [hV]; rfl)
  have p1 := zc1_M (t := t) hM
  have n1 := zm5_c1 hm5
  have k0 : ¬ lg_cmp (zlw T x) (Int64.ofNat 985) = 0 := fun q => by have := (zlw_eq (T := T) hk (k := 985) (by decide) (by decide)).mp q; rw [hV] at this; exact absurd this (by decide)
  have k1 : ¬ lg_cmp (zlw T x) (Int64.ofNat 55175) = 0 := fun q => by have := (zlw_eq (T := T) hk (k := 55175) (by decide) (by decide)).mp q; rw [hV] at this; exact absurd this (by decide)
  have k11 : (lg_cmp (zlw T x) (Int64.ofNat 11450658) = 0) = True := eq_true ((zlw_eq (T := T) hk (k := 11450658) (by decide) (by decide)).mpr hV)
  obtain ⟨F, t2, f2, f3⟩ := M180 (d + 4) L p0 p2 r2 r3 s4 (zc1 C t) p1 hk.2.1 (by rw [hkind]; decide)
  have n2 := zm5_4 n1 f3
  have fr2 : zFS N j C (zcs (zc1 C t) 401 F) := zFS_t zc1_F (zFS_M f3) (Nat.le_refl _) (Nat.le_refl _)
  obtain ⟨C2, hC2⟩ : ∃ C2, C2 = zcs (zc1 C t) 401 F := ⟨_, rfl⟩
  rcases f2 with ⟨e5, _⟩ | ⟨_, f4, f5, f6, f7, f8⟩
  case inl => exact absurd hx5 e5
  have b2 : zBm C C2 (zadv T n x).1 := ⟨by rw [hC2, zcs_eq]; exact f4, by rw [hC2, zcs_eq]; exact f5, by rw [hC2]; exact zFS_w fr2 (Nat.zero_le _) (Nat.zero_le _)⟩
  have b13 : C2 401 0 13 = nI N := by rw [hC2]; exact n2.1
  rw [← hC2] at t2
  obtain ⟨C3, t3, g3, ff3⟩ := MX_b d L p0 p2 r2 r3 s4 C2 b2.1
  have b3 : zBm C C3 (zadv T n x).1 := ⟨by rw [ff3 10 (by decide) (by decide) (by decide)]; exact b2.1, by rw [ff3 9 (by decide) (by decide) (by decide)]; exact b2.2.1, zFS_t b2.2.2 ⟨fun g a _ _ _ _ _ => g3 g a, fun f _ _ _ _ _ _ _ _ _ _ a b c => ff3 f a b c, fun i hi => absurd hi (by omega), fun i hi => absurd hi (by omega)⟩ (Nat.le_refl _) (Nat.le_refl _)⟩
  have b13' : C3 401 0 13 = nI N := by rw [ff3 13 (by decide) (by decide) (by decide)]; exact b13
  have t4 := M185 (d + 6) L p0 p2 r2 r3 s4 C3 (N := N) (by omega) b13' 12 (nI j) (C3 401 0 14) 0
  have hr : zR (d + 7) 189 0 [.ref 201, zmk, zmk, zmk, zmk, zmk] [] (zZ L, zI C, zPd p0 p2 r2 r3 s4) = some (none, (zZ L, zI (zsp C3 N 12 (nI j) (C3 401 0 14) 0), zPd p0 p2 r2 r3 s4)) := by
    rw [t1]
    unfold l89
    simp +decide (disch := omega) only [e189_51, e189_63, e189_85, e189_98, e189_153, e189_167, t187_aim, t187_burn, t187_until, k0, k1, k11, e189_171, e189_175, e189_179, e189_192, e189_300, t2, t3, t4, List.cons_append, List.nil_append, zpre, ite_self, Nat.reduceAdd, zs1, zs2, zs3, zI_eqb, and_self, not_true_eq_false, if_true, if_false, ite_true, ite_false, not_false_eq_true, zBP, zBZ, zisO, zisA, zlen, decide_true, decide_false, Bool.and_self, Bool.and_true, Bool.true_and, cond_true, cond_false, zBG, zBR, zBU, zBV, zinb_n, zix_n, zlA, zlB, zlM, zlN, zlX, zlI, nI_add, Nat.add_eq_zero_iff, false_and, and_false, and_true, true_and, true_or, or_true, false_or, or_false, zbool_i, zb0, zb1, zshp_0, zcs_eq, zcs_n, zcs_cs, zup_g, zup_n, zg_srock2, zg_stug2, zg_ssun, zg_ssun0, zg_srock, zg_srock0, zg_stug, zg_stug0, zg_sord, zg_sord0, zg_srep, zg_srep0, zg_scla, zg_scla0, zg_scon, zg_scon0, zg_swin, zg_swin0, zg_sleg, zg_sleg0, zg_spro, zg_sstp, zg_swrd, zu_srock2, zu_stug2, zu_ssun, zu_ssun0, zu_srock, zu_srock0, zu_stug, zu_stug0, zu_sord, zu_sord0, zu_srep, zu_srep0, zu_scla, zu_scla0, zu_scon, zu_scon0, zu_swin, zu_swin0, zu_sleg, zu_sleg0, zu_spro, zu_sstp, zu_swrd]
  exact ⟨_, (H_s d L p0 p2 r2 r3 s4 C _ hk hC hsm hr).trans (H_bad d L p0 p2 r2 r3 s4 _ (by rw [zsp_f (by decide)]; exact b3.1)), zBm_sp b3⟩

