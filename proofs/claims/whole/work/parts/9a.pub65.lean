/-! THE PROGRAM: an E in the model (2), printed by wip/gen/pub65.py -/
theorem zadv_n5 {T : Nat → Nat} {n : Nat} {x : zLx} (h : x.2.2 = 3) : (zadv T n x).2.2 ≠ 5 := by
  unfold zadv zadf
  have := zsrt_r (T (zfr T n x))
  rw [h]
  split
  · show (0 : Nat) ≠ 5; decide
  split
  · show (3 : Nat) ≠ 5; decide
  split
  · rename_i q; exact absurd q.1 (by decide)
  split
  · show (4 : Nat) ≠ 5; decide
  · show zsrt _ ≠ 5; omega
theorem zstk_c {f g : Nat → Int32} : ∀ {K : List Nat}, (∀ i, i < K.length → g i = f i) → zstk f K → zstk g K := by
  intro K
  induction K with
  | nil => intro _ _; trivial
  | cons a r IH =>
    rintro h ⟨h1, h2, h3⟩
    simp only [List.length_cons] at h
    exact ⟨(h _ (by omega)).trans h1, h2, IH (fun i hi => h i (by omega)) h3⟩
theorem zSK_pu {C : zCt} {b s j : Nat} {K : List Nat} (h : zSK C b s K j) {o b' s' : Nat} (ho : o < 100) (hj : j + K.length + 1 ≤ 120) {G : zGp} (g14 : G 0 14 = C 401 0 14) (g21 : G 0 21 = nI (K.length + 1)) (g22 : G 0 22 = nI b') (g23 : G 0 23 = nI s') : zSK (zcs (zcs C 409 (zup (C 409) 0 K.length (nI o))) 401 G) b' s' (o :: K) j := by
  obtain ⟨h1, h2, h3, h4, h5, h6⟩ := h
  refine ⟨by rw [zcs_eq]; exact g22, by rw [zcs_eq]; exact g23, by rw [zcs_eq, List.length_cons]; exact g21, ⟨?_, ho, ?_⟩, by rw [zcs_eq, g14]; exact h5, by rw [List.length_cons]; omega⟩
  · rw [zcs_n _ _ (by decide), zcs_eq, zup_g]
  · rw [zcs_n _ _ (by decide), zcs_eq]
    exact zstk_c (fun i hi => zup_n _ _ (by omega)) h4
theorem zPM_pu {T : Nat → Nat} {n : Nat} {C : zCt} {x : zLx} (h : zPM T n C x) {F G : zGp} (hG : ∀ f, f ≤ 10 → G 0 f = C 401 0 f) : zPM T n (zcs (zcs C 409 F) 401 G) x := by
  unfold zPM zMT at *
  rw [zcs_eq, zcs_n _ _ (by decide), zcs_n _ _ (by decide), hG 7 (by decide), hG 8 (by decide), hG 5 (by decide), hG 6 (by decide), hG 10 (by decide)]
  exact h
theorem zFE_pu {j : Nat} {C : zCt} {F G : zGp} (hG : ∀ f, f ≠ 21 → f ≠ 22 → f ≠ 23 → G 0 f = C 401 0 f) : zFE j C (zcs (zcs C 409 F) 401 G) := ⟨fun g a b c => by rw [zcs_n _ _ a, zcs_n _ _ c], fun f _ _ _ _ _ _ a7 a8 a9 => by rw [zcs_eq]; exact hG f a7 a8 a9, fun i _ => by rw [zcs_n _ _ (by decide), zcs_n _ _ (by decide)]⟩
theorem zBd_w {T : Nat → Nat} {n : Nat} {C C3 : zCt} {x : zLx} {j : Nat} (hM : zPM T n C x) (hk : zTk T n x) (g : zFX j (zcs C 401 (zup (zup (C 401) 0 9 (nI x.1)) 0 10 1)) C3) : zBd C C3 x.1 := by
  refine ⟨?_, ?_, ?_, zsf_M hM hk (by rw [g.2.1 8 (by decide) (by decide) (by decide) (by decide), zcs_eq, zup_n _ _ (by omega), zup_n _ _ (by omega)]) (by rw [g.2.1 5 (by decide) (by decide) (by decide) (by decide), zcs_eq, zup_n _ _ (by omega), zup_n _ _ (by omega)])⟩
  · rw [g.2.1 10 (by decide) (by decide) (by decide) (by decide), zcs_eq, zup_g]
  · rw [g.2.1 9 (by decide) (by decide) (by decide) (by decide), zcs_eq, zup_n _ _ (by omega), zup_g]
  · exact zFE_t (zFE_4 0 (fun f a b c d e => by rw [zup_n _ _ (by omega), zup_n _ _ (by omega)])) (zFE_w (zFE_X g) (by omega)) (Nat.le_refl _)
theorem zBd_0 {T : Nat → Nat} {n : Nat} {C : zCt} {x : zLx} (hM : zPM T n C x) (hk : zTk T n x) : zBd C (zcs C 401 (zup (zup (C 401) 0 9 (nI x.1)) 0 10 1)) x.1 := zBd_w hM hk (zFX_r 0 _)
theorem M19_bad0 (d L p0 p2 r2 r3 s4 : Nat) (C : zCt) (h : C 401 0 10 = 1) (w : Int32) (v3 : Value) : zR (d + 6) 192 19 [.ref 201, .int w, .int 0, v3] [] (zZ L, zI C, zPd p0 p2 r2 r3 s4) = some (none, (zZ L, zI C, zPd p0 p2 r2 r3 s4)) := by
  rw [e192_19]
  simp +decide (disch := omega) only [e192_208, e192_220, h, zpre, ite_self, Nat.reduceAdd, zs1, zs2, zs3, zI_eqb, and_self, not_true_eq_false, if_true, if_false, ite_true, ite_false, not_false_eq_true, zBP, zBZ, zisO, zisA, zlen, decide_true, decide_false, Bool.and_self, Bool.and_true, Bool.true_and, cond_true, cond_false, zBG, zBR, zBU, zBV, zinb_n, zix_n, zlA, zlB, zlM, zlN, zlX, zlI, nI_add, Nat.add_eq_zero_iff, false_and, and_false, and_true, true_and, true_or, or_true, false_or, or_false, zbool_i, zb0, zb1, zshp_0, zcs_eq, zcs_n, zcs_cs, zup_g, zup_n, zg_srock2, zg_stug2, zg_ssun, zg_ssun0, zg_srock, zg_srock0, zg_stug, zg_stug0, zg_sord, zg_sord0, zg_srep, zg_srep0, zg_scla, zg_scla0, zg_scon, zg_scon0, zg_swin, zg_swin0, zg_sleg, zg_sleg0, zg_spro, zg_sstp, zg_swrd, zu_srock2, zu_stug2, zu_ssun, zu_ssun0, zu_srock, zu_srock0, zu_stug, zu_stug0, zu_sord, zu_sord0, zu_srep, zu_srep0, zu_scla, zu_scla0, zu_scon, zu_scon0, zu_swin, zu_swin0, zu_sleg, zu_sleg0, zu_spro, zu_sstp, zu_swrd]
/-- no part begins here -/
theorem V_none (L p0 p2 r2 r3 s4 : Nat) (T : Nat → Nat) (n : Nat) (x : zLx) (b s : Nat) (hk : zTk T n x) (h33 : ¬ zisg T x 33) (h45 : ¬ zisg T x 45) (h40 : ¬ zisg T x 40) (hk2 : x.2.2 ≠ 2) (hk5 : x.2.2 ≠ 5) (hm : ¬ (x.2.2 = 1 ∧ x.2.1 - x.1 = 1 ∧ znm (T x.1) = true)) : zVf L p0 p2 r2 r3 s4 T n x b s x := by
  intro d C Q K j v3 s0 hC hs0 hQ hK
  obtain ⟨hM, hS, hjx⟩ := hC
  have h120 := hM.1.2.1
  have hn := hk.2.1
  have h1' := hk.1
  have hk5' := hk.2.2.1
  have h10 := hM.2.2.2.2
  have t1 : ∀ d, zR d 183 0 [.ref 201, .int 33] [] (zZ L, zI C, zPd p0 p2 r2 r3 s4) = _ := fun d => M183_n d L p0 p2 r2 r3 s4 C hM hk (c := 33) (by decide) h33
  have t2 : ∀ d, zR d 183 0 [.ref 201, .int 45] [] (zZ L, zI C, zPd p0 p2 r2 r3 s4) = _ := fun d => M183_n d L p0 p2 r2 r3 s4 C hM hk (c := 45) (by decide) h45
  have t3 : ∀ d, zR d 183 0 [.ref 201, .int 40] [] (zZ L, zI C, zPd p0 p2 r2 r3 s4) = _ := fun d => M183_n d L p0 p2 r2 r3 s4 C hM hk (c := 40) (by decide) h40
  have h8 := hM.2.1
  have h5 := hM.2.2.1
  have h6 := hM.2.2.2.1
  have n1 : zSK (zcs C 401 (zup (zup (C 401) 0 9 (nI x.1)) 0 10 1)) b s (Q ++ K) j := zSK_4 hS (fun f a b c d e => by rw [zup_n _ _ (by omega), zup_n _ _ (by omega)])
  by_cases e4 : x.2.2 = 4
  · have tn := M191_n (d + 3) L p0 p2 r2 r3 s4 C hM hk hk2
    have hlt := hk.2.2.2.2.1 (by rw [e4]; decide)
    rw [e4] at h8
    have h8 : C 401 0 8 = 2 := h8
    obtain ⟨n2, g2, m2⟩ := zSK_em n1 (by omega) 1 0
    have te := M194 (d + 4) L p0 p2 r2 r3 s4 _ (j := j) (by omega) n1.2.2.2.2.1 1 0
    obtain ⟨C1, hC1⟩ : ∃ C1, C1 = (zcs C 401 (zup (zup (C 401) 0 9 (nI x.1)) 0 10 1)) := ⟨_, rfl⟩
    rw [← hC1] at n2 g2 m2 te tn
    obtain ⟨C2, hC2⟩ : ∃ C2, C2 = (zcs (zcs C1 406 (zup (zup (C1 406) 0 (2 * j) 1) 0 (2 * j + 1) 0)) 401 (zup (C1 401) 0 14 (nI (j + 1)))) := ⟨_, rfl⟩
    rw [← hC2] at n2 g2 m2 te
    obtain ⟨C3, tp, n3, g3, m3⟩ := M196 (d + 3) L p0 p2 r2 r3 s4 Q K _ b s0 (j + 1) (by rw [← hs0]; exact n2) hQ hK
    have hb : zBd C C3 x.1 := zBd_w hM hk (by rw [← hC1]; exact zFX_t g2 g3 (by omega))
    refine ⟨C3, Eq.trans ?_ (M19_bad d L p0 p2 r2 r3 s4 C3 hb.1 0 v3), hb⟩
    rw [e192_19]
    simp +decide (disch := omega) only [e192_23, e192_30, e192_34, e192_38, e193_0, e193_6, e193_9, e193_15, e193_82, e193_88, e193_142, e193_223, e193_227, e193_150, e193_156, e193_159, h10, h8, t1, t2, t3, tn, te, tp, zpre, ite_self, Nat.reduceAdd, zs1, zs2, zs3, zI_eqb, and_self, not_true_eq_false, if_true, if_false, ite_true, ite_false, not_false_eq_true, zBP, zBZ, zisO, zisA, zlen, decide_true, decide_false, Bool.and_self, Bool.and_true, Bool.true_and, cond_true, cond_false, zBG, zBR, zBU, zBV, zinb_n, zix_n, zlA, zlB, zlM, zlN, zlX, zlI, nI_add, Nat.add_eq_zero_iff, false_and, and_false, and_true, true_and, true_or, or_true, false_or, or_false, zbool_i, zb0, zb1, zshp_0, zcs_eq, zcs_n, zcs_cs, zup_g, zup_n, zg_srock2, zg_stug2, zg_ssun, zg_ssun0, zg_srock, zg_srock0, zg_stug, zg_stug0, zg_sord, zg_sord0, zg_srep, zg_srep0, zg_scla, zg_scla0, zg_scon, zg_scon0, zg_swin, zg_swin0, zg_sleg, zg_sleg0, zg_spro, zg_sstp, zg_swrd, zu_srock2, zu_stug2, zu_ssun, zu_ssun0, zu_srock, zu_srock0, zu_stug, zu_stug0, zu_sord, zu_sord0, zu_srep, zu_srep0, zu_scla, zu_scla0, zu_scon, zu_scon0, zu_swin, zu_swin0, zu_sleg, zu_sleg0, zu_spro, zu_sstp, zu_swrd]
  · have hz : zso x.2.2 = x.2.2 := if_neg e4
    rw [hz] at h8
    have h82 : ¬ C 401 0 8 = 2 := by
      rw [h8]
      exact fun q => hk2 ((nI_eq (b := 2) (by omega) (by decide)).mp q)
    have tw := M182 (d + 4) L p0 p2 r2 r3 s4 C h10
    rw [h5] at tw
    obtain ⟨C3, tp, n3, g3, m3⟩ := M196 (d + 3) L p0 p2 r2 r3 s4 Q K _ b s0 j (by rw [← hs0]; exact n1) hQ hK
    have hb : zBd C C3 x.1 := zBd_w hM hk g3
    refine ⟨C3, Eq.trans ?_ (M19_bad d L p0 p2 r2 r3 s4 C3 hb.1 0 v3), hb⟩
    rw [e192_19]
    by_cases e1 : x.2.2 = 1
    · have h81 : C 401 0 8 = 1 := by rw [h8, e1]; rfl
      have hlt := hk.2.2.2.2.1 (by rw [e1]; decide)
      by_cases el : x.2.1 - x.1 = 1
      · have es : nI x.2.1 - nI x.1 = 1 := by rw [nI_sub (by omega), el]; rfl
        obtain ⟨tb, hb'⟩ := hM.1.2.2 x.1 (by omega)
        have tn := M195 (d + 4) (zZ L) (zI C) (zPd p0 p2 r2 r3 s4) hb'
        rw [if_neg (fun q => hm ⟨e1, el, q⟩)] at tn
        simp +decide (disch := omega) only [e192_23, e192_30, e192_34, e192_38, e193_0, e193_6, e193_9, e193_15, e193_82, e193_88, e193_142, e193_223, e193_227, e193_162, e193_170, e193_183, e193_195, e193_219, h10, h81, h5, h6, es, tb, t1, t2, t3, tn, tw, tp, zpre, ite_self, Nat.reduceAdd, zs1, zs2, zs3, zI_eqb, and_self, not_true_eq_false, if_true, if_false, ite_true, ite_false, not_false_eq_true, zBP, zBZ, zisO, zisA, zlen, decide_true, decide_false, Bool.and_self, Bool.and_true, Bool.true_and, cond_true, cond_false, zBG, zBR, zBU, zBV, zinb_n, zix_n, zlA, zlB, zlM, zlN, zlX, zlI, nI_add, Nat.add_eq_zero_iff, false_and, and_false, and_true, true_and, true_or, or_true, false_or, or_false, zbool_i, zb0, zb1, zshp_0, zcs_eq, zcs_n, zcs_cs, zup_g, zup_n, zg_srock2, zg_stug2, zg_ssun, zg_ssun0, zg_srock, zg_srock0, zg_stug, zg_stug0, zg_sord, zg_sord0, zg_srep, zg_srep0, zg_scla, zg_scla0, zg_scon, zg_scon0, zg_swin, zg_swin0, zg_sleg, zg_sleg0, zg_spro, zg_sstp, zg_swrd, zu_srock2, zu_stug2, zu_ssun, zu_ssun0, zu_srock, zu_srock0, zu_stug, zu_stug0, zu_sord, zu_sord0, zu_srep, zu_srep0, zu_scla, zu_scla0, zu_scon, zu_scon0, zu_swin, zu_swin0, zu_sleg, zu_sleg0, zu_spro, zu_sstp, zu_swrd]
      · have es : ¬ nI x.2.1 - nI x.1 = 1 := by
          rw [nI_sub (by omega)]
          exact fun q => el ((nI_eq (b := 1) (by omega) (by decide)).mp q)
        simp +decide (disch := omega) only [e192_23, e192_30, e192_34, e192_38, e193_0, e193_6, e193_9, e193_15, e193_82, e193_88, e193_142, e193_223, e193_227, e193_162, e193_170, e193_219, h10, h81, h5, h6, es, t1, t2, t3, tw, tp, zpre, ite_self, Nat.reduceAdd, zs1, zs2, zs3, zI_eqb, and_self, not_true_eq_false, if_true, if_false, ite_true, ite_false, not_false_eq_true, zBP, zBZ, zisO, zisA, zlen, decide_true, decide_false, Bool.and_self, Bool.and_true, Bool.true_and, cond_true, cond_false, zBG, zBR, zBU, zBV, zinb_n, zix_n, zlA, zlB, zlM, zlN, zlX, zlI, nI_add, Nat.add_eq_zero_iff, false_and, and_false, and_true, true_and, true_or, or_true, false_or, or_false, zbool_i, zb0, zb1, zshp_0, zcs_eq, zcs_n, zcs_cs, zup_g, zup_n, zg_srock2, zg_stug2, zg_ssun, zg_ssun0, zg_srock, zg_srock0, zg_stug, zg_stug0, zg_sord, zg_sord0, zg_srep, zg_srep0, zg_scla, zg_scla0, zg_scon, zg_scon0, zg_swin, zg_swin0, zg_sleg, zg_sleg0, zg_spro, zg_sstp, zg_swrd, zu_srock2, zu_stug2, zu_ssun, zu_ssun0, zu_srock, zu_srock0, zu_stug, zu_stug0, zu_sord, zu_sord0, zu_srep, zu_srep0, zu_scla, zu_scla0, zu_scon, zu_scon0, zu_swin, zu_swin0, zu_sleg, zu_sleg0, zu_spro, zu_sstp, zu_swrd]
    · have h81 : ¬ C 401 0 8 = 1 := by
        rw [h8]
        exact fun q => e1 ((nI_eq (b := 1) (by omega) (by decide)).mp q)
      simp +decide (disch := omega) only [e192_23, e192_30, e192_34, e192_38, e193_0, e193_6, e193_9, e193_15, e193_82, e193_88, e193_142, e193_223, e193_227, e193_162, e193_219, h10, h82, h81, t1, t2, t3, tw, tp, zpre, ite_self, Nat.reduceAdd, zs1, zs2, zs3, zI_eqb, and_self, not_true_eq_false, if_true, if_false, ite_true, ite_false, not_false_eq_true, zBP, zBZ, zisO, zisA, zlen, decide_true, decide_false, Bool.and_self, Bool.and_true, Bool.true_and, cond_true, cond_false, zBG, zBR, zBU, zBV, zinb_n, zix_n, zlA, zlB, zlM, zlN, zlX, zlI, nI_add, Nat.add_eq_zero_iff, false_and, and_false, and_true, true_and, true_or, or_true, false_or, or_false, zbool_i, zb0, zb1, zshp_0, zcs_eq, zcs_n, zcs_cs, zup_g, zup_n, zg_srock2, zg_stug2, zg_ssun, zg_ssun0, zg_srock, zg_srock0, zg_stug, zg_stug0, zg_sord, zg_sord0, zg_srep, zg_srep0, zg_scla, zg_scla0, zg_scon, zg_scon0, zg_swin, zg_swin0, zg_sleg, zg_sleg0, zg_spro, zg_sstp, zg_swrd, zu_srock2, zu_stug2, zu_ssun, zu_ssun0, zu_srock, zu_srock0, zu_stug, zu_stug0, zu_sord, zu_sord0, zu_srep, zu_srep0, zu_scla, zu_scla0, zu_scon, zu_scon0, zu_swin, zu_swin0, zu_sleg, zu_sleg0, zu_spro, zu_sstp, zu_swrd]
theorem V_pre0 (L p0 p2 r2 r3 s4 : Nat) (T : Nat → Nat) (n : Nat) (x : zLx) (b s : Nat) (hk : zTk T n x) (hs : zisg T x 33 ∨ zisg T x 45) (h8s : s = 8) : zVf L p0 p2 r2 r3 s4 T n x b s x := by
  intro d C Q K j v3 s0 hC hs0 hQ hK
  obtain ⟨hM, hS, hjx⟩ := hC
  have h10 := hM.2.2.2.2
  have h23 : C 401 0 23 = 8 := by rw [hS.2.1, h8s]; rfl
  have tw := M182 (d + 4) L p0 p2 r2 r3 s4 C h10
  rw [hM.2.2.1] at tw
  refine ⟨_, Eq.trans ?_ (M19_bad d L p0 p2 r2 r3 s4 (zcs C 401 (zup (zup (C 401) 0 9 (nI x.1)) 0 10 1)) (by rw [zcs_eq, zup_g]) 0 v3), zBd_0 hM hk⟩
  rw [e192_19]
  by_cases q : zisg T x 33
  · have t1 : zR (d + 4) 183 0 [.ref 201, .int 33] [] (zZ L, zI C, zPd p0 p2 r2 r3 s4) = _ := M183_y (d + 4) L p0 p2 r2 r3 s4 C hM hk q
    simp +decide (disch := omega) only [e192_23, e192_30, e192_34, e192_38, e193_0, e193_6, e193_18, e193_27, e193_31, h10, h23, t1, tw, zpre, ite_self, Nat.reduceAdd, zs1, zs2, zs3, zI_eqb, and_self, not_true_eq_false, if_true, if_false, ite_true, ite_false, not_false_eq_true, zBP, zBZ, zisO, zisA, zlen, decide_true, decide_false, Bool.and_self, Bool.and_true, Bool.true_and, cond_true, cond_false, zBG, zBR, zBU, zBV, zinb_n, zix_n, zlA, zlB, zlM, zlN, zlX, zlI, nI_add, Nat.add_eq_zero_iff, false_and, and_false, and_true, true_and, true_or, or_true, false_or, or_false, zbool_i, zb0, zb1, zshp_0, zcs_eq, zcs_n, zcs_cs, zup_g, zup_n, zg_srock2, zg_stug2, zg_ssun, zg_ssun0, zg_srock, zg_srock0, zg_stug, zg_stug0, zg_sord, zg_sord0, zg_srep, zg_srep0, zg_scla, zg_scla0, zg_scon, zg_scon0, zg_swin, zg_swin0, zg_sleg, zg_sleg0, zg_spro, zg_sstp, zg_swrd, zu_srock2, zu_stug2, zu_ssun, zu_ssun0, zu_srock, zu_srock0, zu_stug, zu_stug0, zu_sord, zu_sord0, zu_srep, zu_srep0, zu_scla, zu_scla0, zu_scon, zu_scon0, zu_swin, zu_swin0, zu_sleg, zu_sleg0, zu_spro, zu_sstp, zu_swrd]
  · have t1 : zR (d + 4) 183 0 [.ref 201, .int 33] [] (zZ L, zI C, zPd p0 p2 r2 r3 s4) = _ := M183_n (d + 4) L p0 p2 r2 r3 s4 C hM hk (c := 33) (by decide) q
    have q2 : zisg T x 45 := by rcases hs with w | w; exact absurd w q; exact w
    have t2 : zR (d + 4) 183 0 [.ref 201, .int 45] [] (zZ L, zI C, zPd p0 p2 r2 r3 s4) = _ := M183_y (d + 4) L p0 p2 r2 r3 s4 C hM hk q2
    simp +decide (disch := omega) only [e192_23, e192_30, e192_34, e192_38, e193_0, e193_6, e193_9, e193_15, e193_18, e193_27, e193_31, h10, h23, t1, t2, tw, zpre, ite_self, Nat.reduceAdd, zs1, zs2, zs3, zI_eqb, and_self, not_true_eq_false, if_true, if_false, ite_true, ite_false, not_false_eq_true, zBP, zBZ, zisO, zisA, zlen, decide_true, decide_false, Bool.and_self, Bool.and_true, Bool.true_and, cond_true, cond_false, zBG, zBR, zBU, zBV, zinb_n, zix_n, zlA, zlB, zlM, zlN, zlX, zlI, nI_add, Nat.add_eq_zero_iff, false_and, and_false, and_true, true_and, true_or, or_true, false_or, or_false, zbool_i, zb0, zb1, zshp_0, zcs_eq, zcs_n, zcs_cs, zup_g, zup_n, zg_srock2, zg_stug2, zg_ssun, zg_ssun0, zg_srock, zg_srock0, zg_stug, zg_stug0, zg_sord, zg_sord0, zg_srep, zg_srep0, zg_scla, zg_scla0, zg_scon, zg_scon0, zg_swin, zg_swin0, zg_sleg, zg_sleg0, zg_spro, zg_sstp, zg_swrd, zu_srock2, zu_stug2, zu_ssun, zu_ssun0, zu_srock, zu_srock0, zu_stug, zu_stug0, zu_sord, zu_sord0, zu_srep, zu_srep0, zu_scla, zu_scla0, zu_scon, zu_scon0, zu_swin, zu_swin0, zu_sleg, zu_sleg0, zu_spro, zu_sstp, zu_swrd]
theorem V_par0 (L p0 p2 r2 r3 s4 : Nat) (T : Nat → Nat) (n : Nat) (x : zLx) (b s : Nat) (hk : zTk T n x) (hs : zisg T x 40) (h8b : b = 8) : zVf L p0 p2 r2 r3 s4 T n x b s x := by
  intro d C Q K j v3 s0 hC hs0 hQ hK
  obtain ⟨hM, hS, hjx⟩ := hC
  have h10 := hM.2.2.2.2
  have h22 : C 401 0 22 = 8 := by rw [hS.1, h8b]; rfl
  have tw := M182 (d + 4) L p0 p2 r2 r3 s4 C h10
  rw [hM.2.2.1] at tw
  refine ⟨_, Eq.trans ?_ (M19_bad d L p0 p2 r2 r3 s4 (zcs C 401 (zup (zup (C 401) 0 9 (nI x.1)) 0 10 1)) (by rw [zcs_eq, zup_g]) 0 v3), zBd_0 hM hk⟩
  rw [e192_19]
  have t1 : zR (d + 4) 183 0 [.ref 201, .int 33] [] (zZ L, zI C, zPd p0 p2 r2 r3 s4) = _ := M183_n (d + 4) L p0 p2 r2 r3 s4 C hM hk (c := 33) (by decide) (fun q => by have := q.2; rw [hs.2] at this; omega)
  have t2 : zR (d + 4) 183 0 [.ref 201, .int 45] [] (zZ L, zI C, zPd p0 p2 r2 r3 s4) = _ := M183_n (d + 4) L p0 p2 r2 r3 s4 C hM hk (c := 45) (by decide) (fun q => by have := q.2; rw [hs.2] at this; omega)
  have t3 : zR (d + 4) 183 0 [.ref 201, .int 40] [] (zZ L, zI C, zPd p0 p2 r2 r3 s4) = _ := M183_y (d + 4) L p0 p2 r2 r3 s4 C hM hk hs
  simp +decide (disch := omega) only [e192_23, e192_30, e192_34, e192_38, e193_0, e193_6, e193_9, e193_15, e193_82, e193_88, e193_91, e193_100, e193_104, h10, h22, t1, t2, t3, tw, zpre, ite_self, Nat.reduceAdd, zs1, zs2, zs3, zI_eqb, and_self, not_true_eq_false, if_true, if_false, ite_true, ite_false, not_false_eq_true, zBP, zBZ, zisO, zisA, zlen, decide_true, decide_false, Bool.and_self, Bool.and_true, Bool.true_and, cond_true, cond_false, zBG, zBR, zBU, zBV, zinb_n, zix_n, zlA, zlB, zlM, zlN, zlX, zlI, nI_add, Nat.add_eq_zero_iff, false_and, and_false, and_true, true_and, true_or, or_true, false_or, or_false, zbool_i, zb0, zb1, zshp_0, zcs_eq, zcs_n, zcs_cs, zup_g, zup_n, zg_srock2, zg_stug2, zg_ssun, zg_ssun0, zg_srock, zg_srock0, zg_stug, zg_stug0, zg_sord, zg_sord0, zg_srep, zg_srep0, zg_scla, zg_scla0, zg_scon, zg_scon0, zg_swin, zg_swin0, zg_sleg, zg_sleg0, zg_spro, zg_sstp, zg_swrd, zu_srock2, zu_stug2, zu_ssun, zu_ssun0, zu_srock, zu_srock0, zu_stug, zu_stug0, zu_sord, zu_sord0, zu_srep, zu_srep0, zu_scla, zu_scla0, zu_scon, zu_scon0, zu_swin, zu_swin0, zu_sleg, zu_sleg0, zu_spro, zu_sstp, zu_swrd]

