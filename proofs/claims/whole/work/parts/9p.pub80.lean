/-! THE PROGRAM: S in the model (6): a block is closed, printed by wip/gen/pub80.py -/
theorem zFS_p {N j at_ i : Nat} {C : zCt} {v : Int32} (hi : 4 * at_ ≤ i) : zFS at_ j C (zcs C 405 (zup (C 405) 0 i v)) := ⟨fun g a b _ _ _ _ => by rw [zcs_n _ _ b], fun f _ _ _ _ _ _ _ _ _ _ _ _ _ => by rw [zcs_n _ _ (by decide)], fun k hk => by rw [zcs_eq, zup_n _ _ (by omega)], fun i _ => by rw [zcs_n _ _ (by decide)]⟩
theorem zPM_p {T : Nat → Nat} {n i : Nat} {C : zCt} {x : zLx} {v : Int32} (h : zPM T n C x) : zPM T n (zcs C 405 (zup (C 405) 0 i v)) x := by
  unfold zPM zMT at *
  rw [zcs_n _ _ (by decide), zcs_n _ _ (by decide)]
  exact h
theorem zm5_p {C : zCt} {N j t i : Nat} {B : List (Nat × Nat)} {sm v : Int32} (h : zm5 C N j t B sm) : zm5 (zcs C 405 (zup (C 405) 0 i v)) N j t B sm := by
  unfold zm5 at *
  rw [zcs_n _ _ (by decide), zcs_n _ _ (by decide), zcs_n _ _ (by decide)]
  exact h
/-- the else-block closes -/
theorem K_else (d L p0 p2 r2 r3 s4 : Nat) (C : zCt) {T : Nat → Nat} {n N j t at_ : Nat} {x : zLx} {B : List (Nat × Nat)} (hk : zTk T n x) (hC : zMS T n C x N j t ((1, at_) :: B) 1) (hs : zisg T x 125) (hat : at_ < N) : ∃ C', zR (d + 8) 179 46 [.ref 201, .int 1] [] (zZ L, zI C, zPd p0 p2 r2 r3 s4) = zR (d + 8) 179 46 [.ref 201, .int 1] [] (zZ L, zI C', zPd p0 p2 r2 r3 s4) ∧ zMS T n C' (zadv T n x) N j t B 1 ∧ zFS at_ j C C' ∧ (∀ i, i < 4 * N → i ≠ 4 * at_ + 1 → C' 405 0 i = C 405 0 i) ∧ C' 405 0 (4 * at_ + 1) = nI N := by
  have hm := zMS_5 hC
  have hx := hC.2.2.2.2.2.2.2.2
  have hM := hC.1
  have h120 := hM.1.2.1
  have hn := hk.2.1
  have ha := zadv_k T n x hk.2.1
  have hlt := hk.2.2.2.2.1 (by rw [hs.1]; decide)
  have hb4 : B.length + 1 ≤ 4 := by have := hm.2.2.2.2.1; rw [List.length_cons] at this; exact this
  obtain ⟨F, t1, f2, f3⟩ := M180 (d + 4) L p0 p2 r2 r3 s4 C hM hk.2.1 (by rw [hs.1]; decide)
  rcases f2 with ⟨e5, f2⟩ | ⟨e5, _⟩
  case inr => exact absurd e5 (zadv_n5 hs.1)
  have f18 : F 0 18 = nI (B.length + 1) := by rw [f3 18 (by decide) (by decide) (by decide) (by decide) (by decide)]; exact hm.2.2.2.1
  have f13 : F 0 13 = nI N := by rw [f3 13 (by decide) (by decide) (by decide) (by decide) (by decide)]; exact hm.1
  have s18 : nI (B.length + 1) - 1 = nI B.length := nI_sub (a := B.length + 1) (b := 1) (by omega)
  have k7 : C 407 0 B.length = 1 := hm.2.2.2.2.2.1.1
  have k8 : C 408 0 B.length = nI at_ := hm.2.2.2.2.2.1.2.1
  have m1 : (4 : Int32) * nI at_ + 1 = nI (4 * at_ + 1) := by show nI 4 * nI at_ + nI 1 = _; rw [nI_mul, nI_add]
  have m3 : (4 : Int32) * nI at_ + 3 = nI (4 * at_ + 3) := by show nI 4 * nI at_ + nI 3 = _; rw [nI_mul, nI_add]
  obtain ⟨C2, hC2⟩ : ∃ C2, C2 = (zcs C 401 (zup (zup F 0 18 (nI B.length)) 0 19 1)) := ⟨_, rfl⟩
  have p2' : zPM T n C2 (zadv T n x) := by
    rw [hC2]
    unfold zPM zMT at *
    simp only [zcs_eq, zcs_n _ _ (show (404 : Nat) ≠ 401 by decide)] at f2 ⊢
    rw [zup_n _ _ (by omega), zup_n _ _ (by omega), zup_n _ _ (by omega), zup_n _ _ (by omega), zup_n _ _ (by omega), zup_n _ _ (by omega), zup_n _ _ (by omega), zup_n _ _ (by omega), zup_n _ _ (by omega), zup_n _ _ (by omega)]
    exact f2
  have n2 : zm5 C2 N j t B 1 := by
    rw [hC2]
    refine ⟨?_, ?_, ?_, ?_, by omega, ?_, ?_⟩
    · rw [zcs_eq, zup_n _ _ (by omega), zup_n _ _ (by omega)]; exact f13
    · rw [zcs_eq, zup_n _ _ (by omega), zup_n _ _ (by omega), f3 14 (by decide) (by decide) (by decide) (by decide) (by decide)]; exact hm.2.1
    · rw [zcs_eq, zup_n _ _ (by omega), zup_n _ _ (by omega), f3 15 (by decide) (by decide) (by decide) (by decide) (by decide)]; exact hm.2.2.1
    · rw [zcs_eq, zup_n _ _ (by omega), zup_g]
    · rw [zcs_n _ _ (by decide), zcs_n _ _ (by decide)]; exact hm.2.2.2.2.2.1.2.2
    · rw [zcs_eq, zup_g]
  have fr2 : ∀ N' j', zFS N' j' C C2 := fun N' j' => by
    rw [hC2]
    exact zFS_4 (fun f a0 a1 a2 a3 a4 a5 a6 a7 a8 a9 a10 a11 a12 => by rw [zup_n _ _ (by omega), zup_n _ _ (by omega)]; exact f3 f a0 a1 a2 a3 a4)
  have c5 : C2 405 = C 405 := by rw [hC2, zcs_n _ _ (by decide)]
  refine ⟨(zcs C2 405 (zup (C2 405) 0 (4 * at_ + 1) (nI N))), H_c d L p0 p2 r2 r3 s4 C _ hk hC hs ?_, zMS_of (zPM_p p2') (zm5_p n2) (by omega), zFS_t (fr2 at_ j) (zFS_p (N := N) (by omega)) (Nat.le_refl _) (Nat.le_refl _), fun i _ hi => by rw [zcs_eq, zup_n _ _ (by omega), c5], by rw [zcs_eq, zup_g]⟩
  rw [hC2]
  simp +decide (disch := omega) only [e184_0, e184_4, e184_42, t1, f18, f13, s18, k7, k8, m1, List.cons_append, List.nil_append, zpre, ite_self, Nat.reduceAdd, zs1, zs2, zs3, zI_eqb, and_self, not_true_eq_false, if_true, if_false, ite_true, ite_false, not_false_eq_true, zBP, zBZ, zisO, zisA, zlen, decide_true, decide_false, Bool.and_self, Bool.and_true, Bool.true_and, cond_true, cond_false, zBG, zBR, zBU, zBV, zinb_n, zix_n, zlA, zlB, zlM, zlN, zlX, zlI, nI_add, Nat.add_eq_zero_iff, false_and, and_false, and_true, true_and, true_or, or_true, false_or, or_false, zbool_i, zb0, zb1, zshp_0, zcs_eq, zcs_n, zcs_cs, zup_g, zup_n, zg_srock2, zg_stug2, zg_ssun, zg_ssun0, zg_srock, zg_srock0, zg_stug, zg_stug0, zg_sord, zg_sord0, zg_srep, zg_srep0, zg_scla, zg_scla0, zg_scon, zg_scon0, zg_swin, zg_swin0, zg_sleg, zg_sleg0, zg_spro, zg_sstp, zg_swrd, zu_srock2, zu_stug2, zu_ssun, zu_ssun0, zu_srock, zu_srock0, zu_stug, zu_stug0, zu_sord, zu_sord0, zu_srep, zu_srep0, zu_scla, zu_scla0, zu_scon, zu_scon0, zu_swin, zu_swin0, zu_sleg, zu_sleg0, zu_spro, zu_sstp, zu_swrd]
/-- the while-block closes -/
theorem K_while (d L p0 p2 r2 r3 s4 : Nat) (C : zCt) {T : Nat → Nat} {n N j t at_ : Nat} {x : zLx} {B : List (Nat × Nat)} (hk : zTk T n x) (hC : zMS T n C x N j t ((2, at_) :: B) 1) (hs : zisg T x 125) (hat : at_ < N) : ∃ C', zR (d + 8) 179 46 [.ref 201, .int 1] [] (zZ L, zI C, zPd p0 p2 r2 r3 s4) = zR (d + 8) 179 46 [.ref 201, .int 1] [] (zZ L, zI C', zPd p0 p2 r2 r3 s4) ∧ zMS T n C' (zadv T n x) (N + 1) j t B 1 ∧ zFS at_ j C C' ∧ (∀ i, i < 4 * N → i ≠ 4 * at_ + 3 → C' 405 0 i = C 405 0 i) ∧ C' 405 0 (4 * at_ + 3) = nI (N + 1) ∧ C' 405 0 (4 * N) = 14 ∧ C' 405 0 (4 * N + 1) = nI at_ ∧ C' 405 0 (4 * N + 2) = 0 ∧ C' 405 0 (4 * N + 3) = 0 := by
  have hm := zMS_5 hC
  have hx := hC.2.2.2.2.2.2.2.2
  have hM := hC.1
  have h120 := hM.1.2.1
  have hn := hk.2.1
  have ha := zadv_k T n x hk.2.1
  have hlt := hk.2.2.2.2.1 (by rw [hs.1]; decide)
  have hb4 : B.length + 1 ≤ 4 := by have := hm.2.2.2.2.1; rw [List.length_cons] at this; exact this
  obtain ⟨F, t1, f2, f3⟩ := M180 (d + 4) L p0 p2 r2 r3 s4 C hM hk.2.1 (by rw [hs.1]; decide)
  rcases f2 with ⟨e5, f2⟩ | ⟨e5, _⟩
  case inr => exact absurd e5 (zadv_n5 hs.1)
  have f18 : F 0 18 = nI (B.length + 1) := by rw [f3 18 (by decide) (by decide) (by decide) (by decide) (by decide)]; exact hm.2.2.2.1
  have f13 : F 0 13 = nI N := by rw [f3 13 (by decide) (by decide) (by decide) (by decide) (by decide)]; exact hm.1
  have s18 : nI (B.length + 1) - 1 = nI B.length := nI_sub (a := B.length + 1) (b := 1) (by omega)
  have k7 : C 407 0 B.length = 2 := hm.2.2.2.2.2.1.1
  have k8 : C 408 0 B.length = nI at_ := hm.2.2.2.2.2.1.2.1
  have m1 : (4 : Int32) * nI at_ + 1 = nI (4 * at_ + 1) := by show nI 4 * nI at_ + nI 1 = _; rw [nI_mul, nI_add]
  have m3 : (4 : Int32) * nI at_ + 3 = nI (4 * at_ + 3) := by show nI 4 * nI at_ + nI 3 = _; rw [nI_mul, nI_add]
  obtain ⟨C2, hC2⟩ : ∃ C2, C2 = (zcs C 401 (zup (zup F 0 18 (nI B.length)) 0 19 1)) := ⟨_, rfl⟩
  have p2' : zPM T n C2 (zadv T n x) := by
    rw [hC2]
    unfold zPM zMT at *
    simp only [zcs_eq, zcs_n _ _ (show (404 : Nat) ≠ 401 by decide)] at f2 ⊢
    rw [zup_n _ _ (by omega), zup_n _ _ (by omega), zup_n _ _ (by omega), zup_n _ _ (by omega), zup_n _ _ (by omega), zup_n _ _ (by omega), zup_n _ _ (by omega), zup_n _ _ (by omega), zup_n _ _ (by omega), zup_n _ _ (by omega)]
    exact f2
  have n2 : zm5 C2 N j t B 1 := by
    rw [hC2]
    refine ⟨?_, ?_, ?_, ?_, by omega, ?_, ?_⟩
    · rw [zcs_eq, zup_n _ _ (by omega), zup_n _ _ (by omega)]; exact f13
    · rw [zcs_eq, zup_n _ _ (by omega), zup_n _ _ (by omega), f3 14 (by decide) (by decide) (by decide) (by decide) (by decide)]; exact hm.2.1
    · rw [zcs_eq, zup_n _ _ (by omega), zup_n _ _ (by omega), f3 15 (by decide) (by decide) (by decide) (by decide) (by decide)]; exact hm.2.2.1
    · rw [zcs_eq, zup_n _ _ (by omega), zup_g]
    · rw [zcs_n _ _ (by decide), zcs_n _ _ (by decide)]; exact hm.2.2.2.2.2.1.2.2
    · rw [zcs_eq, zup_g]
  have fr2 : ∀ N' j', zFS N' j' C C2 := fun N' j' => by
    rw [hC2]
    exact zFS_4 (fun f a0 a1 a2 a3 a4 a5 a6 a7 a8 a9 a10 a11 a12 => by rw [zup_n _ _ (by omega), zup_n _ _ (by omega)]; exact f3 f a0 a1 a2 a3 a4)
  have c5 : C2 405 = C 405 := by rw [hC2, zcs_n _ _ (by decide)]
  have t2 := M185 (d + 6) L p0 p2 r2 r3 s4 C2 (N := N) (by omega) n2.1 14 (nI at_) 0 0
  obtain ⟨C3, hC3⟩ : ∃ C3, C3 = zsp C2 N 14 (nI at_) 0 0 := ⟨_, rfl⟩
  have s3 := zsp_s (C := C2) (N := N) (o := 14) (a := nI at_) (b := 0) (c := 0)
  rw [← hC3] at t2 s3
  have p3 : zPM T n C3 (zadv T n x) := by rw [hC3]; exact zPM_sp p2'
  have n3 : zm5 C3 (N + 1) j t B 1 := by rw [hC3]; exact zm5_sp n2
  have fr3 : zFS at_ j C C3 := zFS_t (fr2 at_ j) (zFS_w (by rw [hC3]; exact zFS_st) (by omega) (Nat.le_refl j)) (Nat.le_refl _) (Nat.le_refl _)
  have c3 : ∀ i, i < 4 * N → C3 405 0 i = C 405 0 i := fun i hi => by rw [← c5]; have := (zFS_st (N := N) (j := 0) (C := C2) (o := 14) (a := nI at_) (b := 0) (c := 0)).2.2.1 i hi; rw [← hC3] at this; exact this
  refine ⟨(zcs C3 405 (zup (C3 405) 0 (4 * at_ + 3) (nI (N + 1)))), H_c d L p0 p2 r2 r3 s4 C _ hk hC hs ?_, zMS_of (zPM_p p3) (zm5_p n3) (by omega), zFS_t fr3 (zFS_p (N := N) (by omega)) (Nat.le_refl _) (Nat.le_refl _), fun i h1 hi => by rw [zcs_eq, zup_n _ _ (by omega)]; exact c3 i h1, by rw [zcs_eq, zup_g], by rw [zcs_eq, zup_n _ _ (by omega)]; exact s3.1, by rw [zcs_eq, zup_n _ _ (by omega)]; exact s3.2.1, by rw [zcs_eq, zup_n _ _ (by omega)]; exact s3.2.2.1, by rw [zcs_eq, zup_n _ _ (by omega)]; exact s3.2.2.2⟩
  have q13 := n3.1
  have g7 : C3 407 0 B.length = 2 := by rw [hC3, zsp_g (by decide) (by decide), hC2, zcs_n _ _ (by decide)]; exact k7
  have g18 := n3.2.2.2.1
  rw [hC2] at t2
  simp +decide (disch := omega) only [e184_0, e184_4, e184_57, e184_70, e184_79, e184_115, e184_116, e184_130, e184_163, t1, t2, f18, f13, s18, k7, k8, m3, g18, g7, q13, List.cons_append, List.nil_append, zpre, ite_self, Nat.reduceAdd, zs1, zs2, zs3, zI_eqb, and_self, not_true_eq_false, if_true, if_false, ite_true, ite_false, not_false_eq_true, zBP, zBZ, zisO, zisA, zlen, decide_true, decide_false, Bool.and_self, Bool.and_true, Bool.true_and, cond_true, cond_false, zBG, zBR, zBU, zBV, zinb_n, zix_n, zlA, zlB, zlM, zlN, zlX, zlI, nI_add, Nat.add_eq_zero_iff, false_and, and_false, and_true, true_and, true_or, or_true, false_or, or_false, zbool_i, zb0, zb1, zshp_0, zcs_eq, zcs_n, zcs_cs, zup_g, zup_n, zg_srock2, zg_stug2, zg_ssun, zg_ssun0, zg_srock, zg_srock0, zg_stug, zg_stug0, zg_sord, zg_sord0, zg_srep, zg_srep0, zg_scla, zg_scla0, zg_scon, zg_scon0, zg_swin, zg_swin0, zg_sleg, zg_sleg0, zg_spro, zg_sstp, zg_swrd, zu_srock2, zu_stug2, zu_ssun, zu_ssun0, zu_srock, zu_srock0, zu_stug, zu_stug0, zu_sord, zu_sord0, zu_srep, zu_srep0, zu_scla, zu_scla0, zu_scon, zu_scon0, zu_swin, zu_swin0, zu_sleg, zu_sleg0, zu_spro, zu_sstp, zu_swrd]
/-- the if-block closes, and there is no else -/
theorem K_if (d L p0 p2 r2 r3 s4 : Nat) (C : zCt) {T : Nat → Nat} {n N j t at_ : Nat} {x : zLx} {B : List (Nat × Nat)} (hk : zTk T n x) (hC : zMS T n C x N j t ((0, at_) :: B) 1) (hs : zisg T x 125) (hat : at_ < N) (hV : zV T (zadv T n x) ≠ zWK 14) : ∃ C', zR (d + 8) 179 46 [.ref 201, .int 1] [] (zZ L, zI C, zPd p0 p2 r2 r3 s4) = zR (d + 8) 179 46 [.ref 201, .int 1] [] (zZ L, zI C', zPd p0 p2 r2 r3 s4) ∧ zMS T n C' (zadv T n x) N j t B 1 ∧ zFS at_ j C C' ∧ (∀ i, i < 4 * N → i ≠ 4 * at_ + 3 → C' 405 0 i = C 405 0 i) ∧ C' 405 0 (4 * at_ + 3) = nI N := by
  have hm := zMS_5 hC
  have hx := hC.2.2.2.2.2.2.2.2
  have hM := hC.1
  have h120 := hM.1.2.1
  have hn := hk.2.1
  have ha := zadv_k T n x hk.2.1
  have hlt := hk.2.2.2.2.1 (by rw [hs.1]; decide)
  have hb4 : B.length + 1 ≤ 4 := by have := hm.2.2.2.2.1; rw [List.length_cons] at this; exact this
  obtain ⟨F, t1, f2, f3⟩ := M180 (d + 4) L p0 p2 r2 r3 s4 C hM hk.2.1 (by rw [hs.1]; decide)
  rcases f2 with ⟨e5, f2⟩ | ⟨e5, _⟩
  case inr => exact absurd e5 (zadv_n5 hs.1)
  have f18 : F 0 18 = nI (B.length + 1) := by rw [f3 18 (by decide) (by decide) (by decide) (by decide) (by decide)]; exact hm.2.2.2.1
  have f13 : F 0 13 = nI N := by rw [f3 13 (by decide) (by decide) (by decide) (by decide) (by decide)]; exact hm.1
  have s18 : nI (B.length + 1) - 1 = nI B.length := nI_sub (a := B.length + 1) (b := 1) (by omega)
  have k7 : C 407 0 B.length = 0 := hm.2.2.2.2.2.1.1
  have k8 : C 408 0 B.length = nI at_ := hm.2.2.2.2.2.1.2.1
  have m1 : (4 : Int32) * nI at_ + 1 = nI (4 * at_ + 1) := by show nI 4 * nI at_ + nI 1 = _; rw [nI_mul, nI_add]
  have m3 : (4 : Int32) * nI at_ + 3 = nI (4 * at_ + 3) := by show nI 4 * nI at_ + nI 3 = _; rw [nI_mul, nI_add]
  obtain ⟨C2, hC2⟩ : ∃ C2, C2 = (zcs C 401 (zup (zup F 0 18 (nI B.length)) 0 19 1)) := ⟨_, rfl⟩
  have p2' : zPM T n C2 (zadv T n x) := by
    rw [hC2]
    unfold zPM zMT at *
    simp only [zcs_eq, zcs_n _ _ (show (404 : Nat) ≠ 401 by decide)] at f2 ⊢
    rw [zup_n _ _ (by omega), zup_n _ _ (by omega), zup_n _ _ (by omega), zup_n _ _ (by omega), zup_n _ _ (by omega), zup_n _ _ (by omega), zup_n _ _ (by omega), zup_n _ _ (by omega), zup_n _ _ (by omega), zup_n _ _ (by omega)]
    exact f2
  have n2 : zm5 C2 N j t B 1 := by
    rw [hC2]
    refine ⟨?_, ?_, ?_, ?_, by omega, ?_, ?_⟩
    · rw [zcs_eq, zup_n _ _ (by omega), zup_n _ _ (by omega)]; exact f13
    · rw [zcs_eq, zup_n _ _ (by omega), zup_n _ _ (by omega), f3 14 (by decide) (by decide) (by decide) (by decide) (by decide)]; exact hm.2.1
    · rw [zcs_eq, zup_n _ _ (by omega), zup_n _ _ (by omega), f3 15 (by decide) (by decide) (by decide) (by decide) (by decide)]; exact hm.2.2.1
    · rw [zcs_eq, zup_n _ _ (by omega), zup_g]
    · rw [zcs_n _ _ (by decide), zcs_n _ _ (by decide)]; exact hm.2.2.2.2.2.1.2.2
    · rw [zcs_eq, zup_g]
  have fr2 : ∀ N' j', zFS N' j' C C2 := fun N' j' => by
    rw [hC2]
    exact zFS_4 (fun f a0 a1 a2 a3 a4 a5 a6 a7 a8 a9 a10 a11 a12 => by rw [zup_n _ _ (by omega), zup_n _ _ (by omega)]; exact f3 f a0 a1 a2 a3 a4)
  have c5 : C2 405 = C 405 := by rw [hC2, zcs_n _ _ (by decide)]
  have t2 := M186 (d + 6) L p0 p2 r2 r3 s4 C2 p2' ha.1
  have hw : ¬ lg_cmp (zlw T (zadv T n x)) (Int64.ofNat 107681) = 0 := fun q => hV ((zlw_eq ha.1 (by decide) (by decide)).mp q)
  refine ⟨(zcs C2 405 (zup (C2 405) 0 (4 * at_ + 3) (nI N))), H_c d L p0 p2 r2 r3 s4 C _ hk hC hs ?_, zMS_of (zPM_p p2') (zm5_p n2) (by omega), zFS_t (fr2 at_ j) (zFS_p (N := N) (by omega)) (Nat.le_refl _) (Nat.le_refl _), fun i _ hi => by rw [zcs_eq, zup_n _ _ (by omega), c5], by rw [zcs_eq, zup_g]⟩
  rw [hC2] at t2 ⊢
  simp +decide (disch := omega) only [e184_0, e184_4, e184_57, e184_79, e184_91, e184_95, e184_107, e184_115, e184_116, e184_130, e184_163, t1, t2, hw, t187_else, f18, f13, s18, k7, k8, m3, List.cons_append, List.nil_append, zpre, ite_self, Nat.reduceAdd, zs1, zs2, zs3, zI_eqb, and_self, not_true_eq_false, if_true, if_false, ite_true, ite_false, not_false_eq_true, zBP, zBZ, zisO, zisA, zlen, decide_true, decide_false, Bool.and_self, Bool.and_true, Bool.true_and, cond_true, cond_false, zBG, zBR, zBU, zBV, zinb_n, zix_n, zlA, zlB, zlM, zlN, zlX, zlI, nI_add, Nat.add_eq_zero_iff, false_and, and_false, and_true, true_and, true_or, or_true, false_or, or_false, zbool_i, zb0, zb1, zshp_0, zcs_eq, zcs_n, zcs_cs, zup_g, zup_n, zg_srock2, zg_stug2, zg_ssun, zg_ssun0, zg_srock, zg_srock0, zg_stug, zg_stug0, zg_sord, zg_sord0, zg_srep, zg_srep0, zg_scla, zg_scla0, zg_scon, zg_scon0, zg_swin, zg_swin0, zg_sleg, zg_sleg0, zg_spro, zg_sstp, zg_swrd, zu_srock2, zu_stug2, zu_ssun, zu_ssun0, zu_srock, zu_srock0, zu_stug, zu_stug0, zu_sord, zu_sord0, zu_srep, zu_srep0, zu_scla, zu_scla0, zu_scon, zu_scon0, zu_swin, zu_swin0, zu_sleg, zu_sleg0, zu_spro, zu_sstp, zu_swrd]

/-- the if-block closes, an else follows -/
theorem K_ifb (d L p0 p2 r2 r3 s4 : Nat) (C : zCt) {T : Nat → Nat} {n N j t at_ : Nat} {x : zLx} {B : List (Nat × Nat)} (hk : zTk T n x) (hC : zMS T n C x N j t ((0, at_) :: B) 1) (hs : zisg T x 125) (hat : at_ < N) (hV : zV T (zadv T n x) = zWK 14) (hno : ¬ zisg T (zadv T n (zadv T n x)) 123) : ∃ C', zR (d + 8) 179 46 [.ref 201, .int 1] [] (zZ L, zI C, zPd p0 p2 r2 r3 s4) = some (none, (zZ L, zI C', zPd p0 p2 r2 r3 s4)) ∧ zBm C C' (zadv T n (zadv T n x)).1 := by
  have hm := zMS_5 hC
  have hx := hC.2.2.2.2.2.2.2.2
  have hM := hC.1
  have h120 := hM.1.2.1
  have hn := hk.2.1
  have ha := zadv_k T n x hk.2.1
  have hlt := hk.2.2.2.2.1 (by rw [hs.1]; decide)
  have hb4 : B.length + 1 ≤ 4 := by have := hm.2.2.2.2.1; rw [List.length_cons] at this; exact this
  obtain ⟨F, t1, f2, f3⟩ := M180 (d + 4) L p0 p2 r2 r3 s4 C hM hk.2.1 (by rw [hs.1]; decide)
  rcases f2 with ⟨e5, f2⟩ | ⟨e5, _⟩
  case inr => exact absurd e5 (zadv_n5 hs.1)
  have f18 : F 0 18 = nI (B.length + 1) := by rw [f3 18 (by decide) (by decide) (by decide) (by decide) (by decide)]; exact hm.2.2.2.1
  have f13 : F 0 13 = nI N := by rw [f3 13 (by decide) (by decide) (by decide) (by decide) (by decide)]; exact hm.1
  have s18 : nI (B.length + 1) - 1 = nI B.length := nI_sub (a := B.length + 1) (b := 1) (by omega)
  have k7 : C 407 0 B.length = 0 := hm.2.2.2.2.2.1.1
  have k8 : C 408 0 B.length = nI at_ := hm.2.2.2.2.2.1.2.1
  have m1 : (4 : Int32) * nI at_ + 1 = nI (4 * at_ + 1) := by show nI 4 * nI at_ + nI 1 = _; rw [nI_mul, nI_add]
  have m3 : (4 : Int32) * nI at_ + 3 = nI (4 * at_ + 3) := by show nI 4 * nI at_ + nI 3 = _; rw [nI_mul, nI_add]
  obtain ⟨C2, hC2⟩ : ∃ C2, C2 = (zcs C 401 (zup (zup F 0 18 (nI B.length)) 0 19 1)) := ⟨_, rfl⟩
  have p2' : zPM T n C2 (zadv T n x) := by
    rw [hC2]
    unfold zPM zMT at *
    simp only [zcs_eq, zcs_n _ _ (show (404 : Nat) ≠ 401 by decide)] at f2 ⊢
    rw [zup_n _ _ (by omega), zup_n _ _ (by omega), zup_n _ _ (by omega), zup_n _ _ (by omega), zup_n _ _ (by omega), zup_n _ _ (by omega), zup_n _ _ (by omega), zup_n _ _ (by omega), zup_n _ _ (by omega), zup_n _ _ (by omega)]
    exact f2
  have n2 : zm5 C2 N j t B 1 := by
    rw [hC2]
    refine ⟨?_, ?_, ?_, ?_, by omega, ?_, ?_⟩
    · rw [zcs_eq, zup_n _ _ (by omega), zup_n _ _ (by omega)]; exact f13
    · rw [zcs_eq, zup_n _ _ (by omega), zup_n _ _ (by omega), f3 14 (by decide) (by decide) (by decide) (by decide) (by decide)]; exact hm.2.1
    · rw [zcs_eq, zup_n _ _ (by omega), zup_n _ _ (by omega), f3 15 (by decide) (by decide) (by decide) (by decide) (by decide)]; exact hm.2.2.1
    · rw [zcs_eq, zup_n _ _ (by omega), zup_g]
    · rw [zcs_n _ _ (by decide), zcs_n _ _ (by decide)]; exact hm.2.2.2.2.2.1.2.2
    · rw [zcs_eq, zup_g]
  have fr2 : ∀ N' j', zFS N' j' C C2 := fun N' j' => by
    rw [hC2]
    exact zFS_4 (fun f a0 a1 a2 a3 a4 a5 a6 a7 a8 a9 a10 a11 a12 => by rw [zup_n _ _ (by omega), zup_n _ _ (by omega)]; exact f3 f a0 a1 a2 a3 a4)
  have c5 : C2 405 = C 405 := by rw [hC2, zcs_n _ _ (by decide)]
  have t2 := M186 (d + 6) L p0 p2 r2 r3 s4 C2 p2' ha.1
  have hw := eq_true ((zlw_eq ha.1 (k := 107681) (by decide) (by decide)).mpr hV)
  have hkind := zV_1 (by omega) hV
  have hlt1 := ha.1.2.2.2.2.1 (by rw [hkind]; decide)
  have ha1 := zadv_k T n (zadv T n x) ha.1.2.1
  have t3 := M185 (d + 6) L p0 p2 r2 r3 s4 C2 (N := N) (by omega) n2.1 14 0 0 0
  obtain ⟨C3, hC3⟩ : ∃ C3, C3 = zsp C2 N 14 0 0 0 := ⟨_, rfl⟩
  have s3 := zsp_s (C := C2) (N := N) (o := 14) (a := 0) (b := 0) (c := 0)
  rw [← hC3] at t3 s3
  have p3 : zPM T n C3 (zadv T n x) := by rw [hC3]; exact zPM_sp p2'
  have n3 : zm5 C3 (N + 1) j t B 1 := by rw [hC3]; exact zm5_sp n2
  have fr3 : zFS at_ j C C3 := zFS_t (fr2 at_ j) (zFS_w (by rw [hC3]; exact zFS_st) (by omega) (Nat.le_refl j)) (Nat.le_refl _) (Nat.le_refl _)
  have c3 : ∀ i, i < 4 * N → C3 405 0 i = C 405 0 i := fun i hi => by rw [← c5]; have := (zFS_st (N := N) (j := 0) (C := C2) (o := 14) (a := 0) (b := 0) (c := 0)).2.2.1 i hi; rw [← hC3] at this; exact this
  have q13 := n3.1
  obtain ⟨C4, hC4⟩ : ∃ C4, C4 = (zcs C3 405 (zup (C3 405) 0 (4 * at_ + 3) (nI (N + 1)))) := ⟨_, rfl⟩
  have p4 : zPM T n C4 (zadv T n x) := by rw [hC4]; exact zPM_p p3
  have n4 : zm5 C4 (N + 1) j t B 1 := by rw [hC4]; exact zm5_p n3
  have fr4 : zFS at_ j C C4 := zFS_t fr3 (by rw [hC4]; exact zFS_p (N := N) (by omega)) (Nat.le_refl _) (Nat.le_refl _)
  have c4 : (∀ i, i < 4 * N → i ≠ 4 * at_ + 3 → C4 405 0 i = C 405 0 i) ∧ C4 405 0 (4 * at_ + 3) = nI (N + 1) ∧ C4 405 0 (4 * N) = 14 ∧ C4 405 0 (4 * N + 1) = 0 ∧ C4 405 0 (4 * N + 2) = 0 ∧ C4 405 0 (4 * N + 3) = 0 := by
    rw [hC4]
    exact ⟨fun i h1 hi => by rw [zcs_eq, zup_n _ _ (by omega)]; exact c3 i h1, by rw [zcs_eq, zup_g], by rw [zcs_eq, zup_n _ _ (by omega)]; exact s3.1, by rw [zcs_eq, zup_n _ _ (by omega)]; exact s3.2.1, by rw [zcs_eq, zup_n _ _ (by omega)]; exact s3.2.2.1, by rw [zcs_eq, zup_n _ _ (by omega)]; exact s3.2.2.2⟩
  have b13 : C4 401 0 13 - 1 = nI N := by rw [n4.1]; exact nI_sub (a := N + 1) (b := 1) (by omega)
  obtain ⟨G, t4, g2, g3⟩ := M180 (d + 4) L p0 p2 r2 r3 s4 C4 p4 ha.1.2.1 (by rw [hkind]; decide)
  have g13 : G 0 13 = nI (N + 1) := by rw [g3 13 (by decide) (by decide) (by decide) (by decide) (by decide)]; exact n4.1
  have s13 : nI (N + 1) - 1 = nI N := nI_sub (a := N + 1) (b := 1) (by omega)
  have n5 := zm5_4 n4 g3
  have fr5 : zFS at_ j C (zcs C4 401 G) := zFS_t fr4 (zFS_M g3) (Nat.le_refl _) (Nat.le_refl _)
  rcases g2 with ⟨e6, g2⟩ | ⟨e6, g10, g9, _⟩
  · have t5 := M188_n d L p0 p2 r2 r3 s4 (zcs C4 401 G) 1 (nI N) g2 ha1.1 n5 (Or.inl hno)
    have b6 : zBm C (zcs (zcs C4 401 G) 401 (zup (zup ((zcs C4 401 G) 401) 0 9 (nI (zadv T n (zadv T n x)).1)) 0 10 1)) (zadv T n (zadv T n x)).1 := zBm_t fr5 (zbm_wr (T := T) (n := n) g2.2.2.1)
    rw [zcs_eq, zcs_cs] at t5 b6
    have hr : zR (d + 7) 184 0 [.ref 201, zmk, zmk] [] (zZ L, zI C, zPd p0 p2 r2 r3 s4) = some (none, (zZ L, zI (zcs C4 401 (zup (zup G 0 9 (nI (zadv T n (zadv T n x)).1)) 0 10 1)), zPd p0 p2 r2 r3 s4)) := by
      rw [hC2] at t2 t3
      rw [hC4] at t4 t5 ⊢
      simp +decide (disch := omega) only [e184_0, e184_4, e184_57, e184_79, e184_91, e184_95, e184_107, e184_111, e184_116, e184_121, e184_130, e184_148, e184_152, e184_163, t1, t2, t3, t4, t5, hw, t187_else, f18, f13, q13, s18, k7, k8, m3, g13, s13, List.cons_append, List.nil_append, zpre, ite_self, Nat.reduceAdd, zs1, zs2, zs3, zI_eqb, and_self, not_true_eq_false, if_true, if_false, ite_true, ite_false, not_false_eq_true, zBP, zBZ, zisO, zisA, zlen, decide_true, decide_false, Bool.and_self, Bool.and_true, Bool.true_and, cond_true, cond_false, zBG, zBR, zBU, zBV, zinb_n, zix_n, zlA, zlB, zlM, zlN, zlX, zlI, nI_add, Nat.add_eq_zero_iff, false_and, and_false, and_true, true_and, true_or, or_true, false_or, or_false, zbool_i, zb0, zb1, zshp_0, zcs_eq, zcs_n, zcs_cs, zup_g, zup_n, zg_srock2, zg_stug2, zg_ssun, zg_ssun0, zg_srock, zg_srock0, zg_stug, zg_stug0, zg_sord, zg_sord0, zg_srep, zg_srep0, zg_scla, zg_scla0, zg_scon, zg_scon0, zg_swin, zg_swin0, zg_sleg, zg_sleg0, zg_spro, zg_sstp, zg_swrd, zu_srock2, zu_stug2, zu_ssun, zu_ssun0, zu_srock, zu_srock0, zu_stug, zu_stug0, zu_sord, zu_sord0, zu_srep, zu_srep0, zu_scla, zu_scla0, zu_scon, zu_scon0, zu_swin, zu_swin0, zu_sleg, zu_sleg0, zu_spro, zu_sstp, zu_swrd]
    exact ⟨_, (H_c d L p0 p2 r2 r3 s4 C _ hk hC hs hr).trans (H_bad d L p0 p2 r2 r3 s4 _ b6.1), b6⟩
  · have b6 : zBm C (zcs C4 401 G) (zadv T n (zadv T n x)).1 := ⟨by rw [zcs_eq]; exact g10, by rw [zcs_eq]; exact g9, zFS_w fr5 (Nat.zero_le _) (Nat.zero_le _)⟩
    have t5 := M188_b (d + 6) L p0 p2 r2 r3 s4 _ b6.1 1 (nI N)
    have hr : zR (d + 7) 184 0 [.ref 201, zmk, zmk] [] (zZ L, zI C, zPd p0 p2 r2 r3 s4) = some (none, (zZ L, zI (zcs C4 401 G), zPd p0 p2 r2 r3 s4)) := by
      rw [hC2] at t2 t3
      rw [hC4] at t4 t5 ⊢
      simp +decide (disch := omega) only [e184_0, e184_4, e184_57, e184_79, e184_91, e184_95, e184_107, e184_111, e184_116, e184_121, e184_130, e184_148, e184_152, e184_163, t1, t2, t3, t4, t5, hw, t187_else, f18, f13, q13, s18, k7, k8, m3, g13, s13, List.cons_append, List.nil_append, zpre, ite_self, Nat.reduceAdd, zs1, zs2, zs3, zI_eqb, and_self, not_true_eq_false, if_true, if_false, ite_true, ite_false, not_false_eq_true, zBP, zBZ, zisO, zisA, zlen, decide_true, decide_false, Bool.and_self, Bool.and_true, Bool.true_and, cond_true, cond_false, zBG, zBR, zBU, zBV, zinb_n, zix_n, zlA, zlB, zlM, zlN, zlX, zlI, nI_add, Nat.add_eq_zero_iff, false_and, and_false, and_true, true_and, true_or, or_true, false_or, or_false, zbool_i, zb0, zb1, zshp_0, zcs_eq, zcs_n, zcs_cs, zup_g, zup_n, zg_srock2, zg_stug2, zg_ssun, zg_ssun0, zg_srock, zg_srock0, zg_stug, zg_stug0, zg_sord, zg_sord0, zg_srep, zg_srep0, zg_scla, zg_scla0, zg_scon, zg_scon0, zg_swin, zg_swin0, zg_sleg, zg_sleg0, zg_spro, zg_sstp, zg_swrd, zu_srock2, zu_stug2, zu_ssun, zu_ssun0, zu_srock, zu_srock0, zu_stug, zu_stug0, zu_sord, zu_sord0, zu_srep, zu_srep0, zu_scla, zu_scla0, zu_scon, zu_scon0, zu_swin, zu_swin0, zu_sleg, zu_sleg0, zu_spro, zu_sstp, zu_swrd]
    exact ⟨_, (H_c d L p0 p2 r2 r3 s4 C _ hk hC hs hr).trans (H_bad d L p0 p2 r2 r3 s4 _ b6.1), b6⟩
theorem K_ife (d L p0 p2 r2 r3 s4 : Nat) (C : zCt) {T : Nat → Nat} {n N j t at_ : Nat} {x : zLx} {B : List (Nat × Nat)} (hk : zTk T n x) (hC : zMS T n C x N j t ((0, at_) :: B) 1) (hs : zisg T x 125) (hat : at_ < N) (hV : zV T (zadv T n x) = zWK 14) (hyes : zisg T (zadv T n (zadv T n x)) 123) : ∃ C', zR (d + 8) 179 46 [.ref 201, .int 1] [] (zZ L, zI C, zPd p0 p2 r2 r3 s4) = zR (d + 8) 179 46 [.ref 201, .int 1] [] (zZ L, zI C', zPd p0 p2 r2 r3 s4) ∧ zMS T n C' (zadv T n (zadv T n (zadv T n x))) (N + 1) j t ((1, N) :: B) 0 ∧ zFS at_ j C C' ∧ (∀ i, i < 4 * N → i ≠ 4 * at_ + 3 → C' 405 0 i = C 405 0 i) ∧ C' 405 0 (4 * at_ + 3) = nI (N + 1) ∧ C' 405 0 (4 * N) = 14 ∧ C' 405 0 (4 * N + 1) = 0 ∧ C' 405 0 (4 * N + 2) = 0 ∧ C' 405 0 (4 * N + 3) = 0 := by
  have hm := zMS_5 hC
  have hx := hC.2.2.2.2.2.2.2.2
  have hM := hC.1
  have h120 := hM.1.2.1
  have hn := hk.2.1
  have ha := zadv_k T n x hk.2.1
  have hlt := hk.2.2.2.2.1 (by rw [hs.1]; decide)
  have hb4 : B.length + 1 ≤ 4 := by have := hm.2.2.2.2.1; rw [List.length_cons] at this; exact this
  obtain ⟨F, t1, f2, f3⟩ := M180 (d + 4) L p0 p2 r2 r3 s4 C hM hk.2.1 (by rw [hs.1]; decide)
  rcases f2 with ⟨e5, f2⟩ | ⟨e5, _⟩
  case inr => exact absurd e5 (zadv_n5 hs.1)
  have f18 : F 0 18 = nI (B.length + 1) := by rw [f3 18 (by decide) (by decide) (by decide) (by decide) (by decide)]; exact hm.2.2.2.1
  have f13 : F 0 13 = nI N := by rw [f3 13 (by decide) (by decide) (by decide) (by decide) (by decide)]; exact hm.1
  have s18 : nI (B.length + 1) - 1 = nI B.length := nI_sub (a := B.length + 1) (b := 1) (by omega)
  have k7 : C 407 0 B.length = 0 := hm.2.2.2.2.2.1.1
  have k8 : C 408 0 B.length = nI at_ := hm.2.2.2.2.2.1.2.1
  have m1 : (4 : Int32) * nI at_ + 1 = nI (4 * at_ + 1) := by show nI 4 * nI at_ + nI 1 = _; rw [nI_mul, nI_add]
  have m3 : (4 : Int32) * nI at_ + 3 = nI (4 * at_ + 3) := by show nI 4 * nI at_ + nI 3 = _; rw [nI_mul, nI_add]
  obtain ⟨C2, hC2⟩ : ∃ C2, C2 = (zcs C 401 (zup (zup F 0 18 (nI B.length)) 0 19 1)) := ⟨_, rfl⟩
  have p2' : zPM T n C2 (zadv T n x) := by
    rw [hC2]
    unfold zPM zMT at *
    simp only [zcs_eq, zcs_n _ _ (show (404 : Nat) ≠ 401 by decide)] at f2 ⊢
    rw [zup_n _ _ (by omega), zup_n _ _ (by omega), zup_n _ _ (by omega), zup_n _ _ (by omega), zup_n _ _ (by omega), zup_n _ _ (by omega), zup_n _ _ (by omega), zup_n _ _ (by omega), zup_n _ _ (by omega), zup_n _ _ (by omega)]
    exact f2
  have n2 : zm5 C2 N j t B 1 := by
    rw [hC2]
    refine ⟨?_, ?_, ?_, ?_, by omega, ?_, ?_⟩
    · rw [zcs_eq, zup_n _ _ (by omega), zup_n _ _ (by omega)]; exact f13
    · rw [zcs_eq, zup_n _ _ (by omega), zup_n _ _ (by omega), f3 14 (by decide) (by decide) (by decide) (by decide) (by decide)]; exact hm.2.1
    · rw [zcs_eq, zup_n _ _ (by omega), zup_n _ _ (by omega), f3 15 (by decide) (by decide) (by decide) (by decide) (by decide)]; exact hm.2.2.1
    · rw [zcs_eq, zup_n _ _ (by omega), zup_g]
    · rw [zcs_n _ _ (by decide), zcs_n _ _ (by decide)]; exact hm.2.2.2.2.2.1.2.2
    · rw [zcs_eq, zup_g]
  have fr2 : ∀ N' j', zFS N' j' C C2 := fun N' j' => by
    rw [hC2]
    exact zFS_4 (fun f a0 a1 a2 a3 a4 a5 a6 a7 a8 a9 a10 a11 a12 => by rw [zup_n _ _ (by omega), zup_n _ _ (by omega)]; exact f3 f a0 a1 a2 a3 a4)
  have c5 : C2 405 = C 405 := by rw [hC2, zcs_n _ _ (by decide)]
  have t2 := M186 (d + 6) L p0 p2 r2 r3 s4 C2 p2' ha.1
  have hw := eq_true ((zlw_eq ha.1 (k := 107681) (by decide) (by decide)).mpr hV)
  have hkind := zV_1 (by omega) hV
  have hlt1 := ha.1.2.2.2.2.1 (by rw [hkind]; decide)
  have ha1 := zadv_k T n (zadv T n x) ha.1.2.1
  have t3 := M185 (d + 6) L p0 p2 r2 r3 s4 C2 (N := N) (by omega) n2.1 14 0 0 0
  obtain ⟨C3, hC3⟩ : ∃ C3, C3 = zsp C2 N 14 0 0 0 := ⟨_, rfl⟩
  have s3 := zsp_s (C := C2) (N := N) (o := 14) (a := 0) (b := 0) (c := 0)
  rw [← hC3] at t3 s3
  have p3 : zPM T n C3 (zadv T n x) := by rw [hC3]; exact zPM_sp p2'
  have n3 : zm5 C3 (N + 1) j t B 1 := by rw [hC3]; exact zm5_sp n2
  have fr3 : zFS at_ j C C3 := zFS_t (fr2 at_ j) (zFS_w (by rw [hC3]; exact zFS_st) (by omega) (Nat.le_refl j)) (Nat.le_refl _) (Nat.le_refl _)
  have c3 : ∀ i, i < 4 * N → C3 405 0 i = C 405 0 i := fun i hi => by rw [← c5]; have := (zFS_st (N := N) (j := 0) (C := C2) (o := 14) (a := 0) (b := 0) (c := 0)).2.2.1 i hi; rw [← hC3] at this; exact this
  have q13 := n3.1
  obtain ⟨C4, hC4⟩ : ∃ C4, C4 = (zcs C3 405 (zup (C3 405) 0 (4 * at_ + 3) (nI (N + 1)))) := ⟨_, rfl⟩
  have p4 : zPM T n C4 (zadv T n x) := by rw [hC4]; exact zPM_p p3
  have n4 : zm5 C4 (N + 1) j t B 1 := by rw [hC4]; exact zm5_p n3
  have fr4 : zFS at_ j C C4 := zFS_t fr3 (by rw [hC4]; exact zFS_p (N := N) (by omega)) (Nat.le_refl _) (Nat.le_refl _)
  have c4 : (∀ i, i < 4 * N → i ≠ 4 * at_ + 3 → C4 405 0 i = C 405 0 i) ∧ C4 405 0 (4 * at_ + 3) = nI (N + 1) ∧ C4 405 0 (4 * N) = 14 ∧ C4 405 0 (4 * N + 1) = 0 ∧ C4 405 0 (4 * N + 2) = 0 ∧ C4 405 0 (4 * N + 3) = 0 := by
    rw [hC4]
    exact ⟨fun i h1 hi => by rw [zcs_eq, zup_n _ _ (by omega)]; exact c3 i h1, by rw [zcs_eq, zup_g], by rw [zcs_eq, zup_n _ _ (by omega)]; exact s3.1, by rw [zcs_eq, zup_n _ _ (by omega)]; exact s3.2.1, by rw [zcs_eq, zup_n _ _ (by omega)]; exact s3.2.2.1, by rw [zcs_eq, zup_n _ _ (by omega)]; exact s3.2.2.2⟩
  have b13 : C4 401 0 13 - 1 = nI N := by rw [n4.1]; exact nI_sub (a := N + 1) (b := 1) (by omega)
  obtain ⟨G, t4, g2, g3⟩ := M180 (d + 4) L p0 p2 r2 r3 s4 C4 p4 ha.1.2.1 (by rw [hkind]; decide)
  have g13 : G 0 13 = nI (N + 1) := by rw [g3 13 (by decide) (by decide) (by decide) (by decide) (by decide)]; exact n4.1
  have s13 : nI (N + 1) - 1 = nI N := nI_sub (a := N + 1) (b := 1) (by omega)
  have n5 := zm5_4 n4 g3
  have fr5 : zFS at_ j C (zcs C4 401 G) := zFS_t fr4 (zFS_M g3) (Nat.le_refl _) (Nat.le_refl _)
  rcases g2 with ⟨e6, g2⟩ | ⟨e6, _⟩
  case inr => exact absurd e6 (by rw [hyes.1]; decide)
  have ha2 := zadv_k T n (zadv T n (zadv T n x)) ha1.1.2.1
  obtain ⟨C6, t5, p6, n6, fr6, g5, g6⟩ := M188_t d L p0 p2 r2 r3 s4 (zcs C4 401 G) (wh := 1) (at_ := N) g2 ha1.1 n5 hyes (by omega)
  rw [show nI 1 = 1 from rfl] at t5
  have c6 : C6 405 = C4 405 := by rw [g5, zcs_n _ _ (by decide)]
  refine ⟨C6, H_c d L p0 p2 r2 r3 s4 C _ hk hC hs ?_, zMS_of p6 n6 (by have := ha1.1.1; omega), zFS_t fr5 (fr6 at_ j) (Nat.le_refl _) (Nat.le_refl _), ?_⟩
  · rw [hC2] at t2 t3
    rw [hC4] at t4 t5
    simp +decide (disch := omega) only [e184_0, e184_4, e184_57, e184_79, e184_91, e184_95, e184_107, e184_111, e184_116, e184_121, e184_130, e184_148, e184_152, e184_163, t1, t2, t3, t4, t5, hw, t187_else, f18, f13, q13, s18, k7, k8, m3, g13, s13, List.cons_append, List.nil_append, zpre, ite_self, Nat.reduceAdd, zs1, zs2, zs3, zI_eqb, and_self, not_true_eq_false, if_true, if_false, ite_true, ite_false, not_false_eq_true, zBP, zBZ, zisO, zisA, zlen, decide_true, decide_false, Bool.and_self, Bool.and_true, Bool.true_and, cond_true, cond_false, zBG, zBR, zBU, zBV, zinb_n, zix_n, zlA, zlB, zlM, zlN, zlX, zlI, nI_add, Nat.add_eq_zero_iff, false_and, and_false, and_true, true_and, true_or, or_true, false_or, or_false, zbool_i, zb0, zb1, zshp_0, zcs_eq, zcs_n, zcs_cs, zup_g, zup_n, zg_srock2, zg_stug2, zg_ssun, zg_ssun0, zg_srock, zg_srock0, zg_stug, zg_stug0, zg_sord, zg_sord0, zg_srep, zg_srep0, zg_scla, zg_scla0, zg_scon, zg_scon0, zg_swin, zg_swin0, zg_sleg, zg_sleg0, zg_spro, zg_sstp, zg_swrd, zu_srock2, zu_stug2, zu_ssun, zu_ssun0, zu_srock, zu_srock0, zu_stug, zu_stug0, zu_sord, zu_sord0, zu_srep, zu_srep0, zu_scla, zu_scla0, zu_scon, zu_scon0, zu_swin, zu_swin0, zu_sleg, zu_sleg0, zu_spro, zu_sstp, zu_swrd]
  · rw [c6]; exact c4

