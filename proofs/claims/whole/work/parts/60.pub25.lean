/-! THE TOUR: the model (3) and the pair, printed by wip/gen/pub25.py -/
theorem T242_102 (d L p0 p2 r2 r3 s4 : Nat) (y1 y2 y3 y5 : Int32) (wd : Nat → Nat → Nat) (K : zGp) (rt e nw nr : Nat) (hDw : zDw wd rt nw nr e) : ∀ (D many dy fu : Nat) (rs : Nat → Nat) (pa : zGp) (s : zSt) (C : zCt) (v8 : Value), many + D = 6 → s.2.1 = false → (∀ j, j ≤ many → rs j < nr) → dy ≤ 2000 → fu ≤ 999 → zDm C wd K rt nw nr → zMk C many rs pa dy fu s → C 417 0 many = nI 0 →
    ∃ C', zFm C C' many ∧ (((zsch wd K rt e nw D many (rs many) dy fu (zwo K rs many).1 (zwo K rs many).2 pa s).2.1 = true ∧ zR (d + 4) 242 102 [.ref 201, .int y1, .int y2, .int y3, .int (nI e), .int y5, .int (nI s.1), .int (nI many), v8] [] (zZ L, zI C, zPd p0 p2 r2 r3 s4) = some (some (.int (-1000000004)), (zZ L, zI C', zPd p0 p2 r2 r3 s4))) ∨ ((zsch wd K rt e nw D many (rs many) dy fu (zwo K rs many).1 (zwo K rs many).2 pa s).2.1 = false ∧ ∃ v, zR (d + 4) 242 102 [.ref 201, .int y1, .int y2, .int y3, .int (nI e), .int y5, .int (nI s.1), .int (nI many), v8] [] (zZ L, zI C, zPd p0 p2 r2 r3 s4) = zR (d + 4) 242 131 [.ref 201, .int y1, .int y2, .int y3, .int (nI e), .int y5, .int (nI (zsch wd K rt e nw D many (rs many) dy fu (zwo K rs many).1 (zwo K rs many).2 pa s).1), .int (nI many), v] [] (zZ L, zI C', zPd p0 p2 r2 r3 s4) ∧ zMk C' many rs pa dy fu (zsch wd K rt e nw D many (rs many) dy fu (zwo K rs many).1 (zwo K rs many).2 pa s))) := by
  obtain ⟨hw16, hr8, hrt50, he2, hwd⟩ := id hDw
  intro D
  induction D with
  | zero =>
    intro many dy fu rs pa s C v8 hm hsp hrs hdy hfu hD hM h17
    have hm6 : many = 6 := by omega
    subst hm6
    refine ⟨C, ⟨fun _ _ => rfl, fun _ _ => rfl, fun _ _ => ⟨rfl, rfl, rfl⟩, fun _ _ => ⟨rfl, rfl, rfl⟩⟩, Or.inr ⟨hsp, v8, ?_, hM⟩⟩
    rw [e242_102, if_neg (by decide), e242_107, if_pos (by decide)]
    rfl
  | succ D ihD =>
    intro many dy fu rs pa s C v8 hm hsp hrs hdy hfu hD hM h17
    obtain ⟨rk, hrk⟩ : ∃ rk, rk = rs many := ⟨_, rfl⟩
    have hrkn : rk < nr := by rw [hrk]; exact hrs many (by omega)
    obtain ⟨wo, hwo⟩ : ∃ wo, wo = (zwo K rs many).1 := ⟨_, rfl⟩
    obtain ⟨se, hse⟩ : ∃ se, se = (zwo K rs many).2 := ⟨_, rfl⟩
    have hq : ∀ m k (s : zSt), s.2.1 = true → zlp (zstep wd K rt e (fun a b c f w x p s => zsch wd K rt e nw D a b c f w x p s) many rk dy fu wo se pa) m k s = s := by
      intro m k s h
      cases m with
      | zero => rfl
      | succ m => unfold zlp; rw [if_pos h]
    have hloop : ∀ (m k : Nat) (s : zSt) (C : zCt) (v8 : Value), k + m = nw → s.2.1 = false → zDm C wd K rt nw nr → zMk C many rs pa dy fu s → C 417 0 many = nI k → ∃ C', zFm C C' many ∧ (((zlp (zstep wd K rt e (fun a b c f w x p s => zsch wd K rt e nw D a b c f w x p s) many rk dy fu wo se pa) m k s).2.1 = true ∧ zR (d + 4) 242 102 [.ref 201, .int y1, .int y2, .int y3, .int (nI e), .int y5, .int (nI s.1), .int (nI many), v8] [] (zZ L, zI C, zPd p0 p2 r2 r3 s4) = some (some (.int (-1000000004)), (zZ L, zI C', zPd p0 p2 r2 r3 s4))) ∨ ((zlp (zstep wd K rt e (fun a b c f w x p s => zsch wd K rt e nw D a b c f w x p s) many rk dy fu wo se pa) m k s).2.1 = false ∧ ∃ v, zR (d + 4) 242 102 [.ref 201, .int y1, .int y2, .int y3, .int (nI e), .int y5, .int (nI s.1), .int (nI many), v8] [] (zZ L, zI C, zPd p0 p2 r2 r3 s4) = zR (d + 4) 242 131 [.ref 201, .int y1, .int y2, .int y3, .int (nI e), .int y5, .int (nI (zlp (zstep wd K rt e (fun a b c f w x p s => zsch wd K rt e nw D a b c f w x p s) many rk dy fu wo se pa) m k s).1), .int (nI many), v] [] (zZ L, zI C', zPd p0 p2 r2 r3 s4) ∧ zMk C' many rs pa dy fu (zlp (zstep wd K rt e (fun a b c f w x p s => zsch wd K rt e nw D a b c f w x p s) many rk dy fu wo se pa) m k s))) := by
      have hm6 : many < 6 := by omega
      have c1 : ¬ nI many < 0 := nI_pos (by omega)
      have c2 : ¬ nI many = 6 := fun h => by
        have := (nI_eq (b := 6) (by omega) (by decide)).mp h
        omega
      intro m
      induction m with
      | zero =>
        intro k s C v8 hk hsp hD hM h17
        have hk : k = nw := by omega
        subst hk
        have h11 := hD.1
        refine ⟨C, ⟨fun _ _ => rfl, fun _ _ => rfl, fun _ _ => ⟨rfl, rfl, rfl⟩, fun _ _ => ⟨rfl, rfl, rfl⟩⟩, Or.inr ⟨hsp, v8, ?_, hM⟩⟩
        have hkk : (nI k = nI k) = True := eq_true rfl
        rw [e242_102, if_neg c1, e242_107, if_neg c2, e242_114]
        simp +decide (disch := omega) only [h17, h11, hkk, zpre, ite_self, Nat.reduceAdd, zs1, zs2, zs3, zI_eqb, and_self, not_true_eq_false, if_true, if_false, ite_true, ite_false, not_false_eq_true, zBP, zBZ, zisO, zisA, zlen, decide_true, decide_false, Bool.and_self, Bool.and_true, Bool.true_and, cond_true, cond_false, zBG, zBR, zBU, zBV, zinb_n, zix_n, zlA, zlB, zlM, zlN, zlX, zlI, nI_add, Nat.add_eq_zero_iff, false_and, and_false, and_true, true_and, true_or, or_true, false_or, or_false, zbool_i, zb0, zb1, zshp_0, zcs_eq, zcs_n, zcs_cs, zup_g, zup_n, zg_srock2, zg_stug2, zg_ssun, zg_ssun0, zg_srock, zg_srock0, zg_stug, zg_stug0, zg_sord, zg_sord0, zg_srep, zg_srep0, zg_scla, zg_scla0, zg_scon, zg_scon0, zg_swin, zg_swin0, zg_sleg, zg_sleg0, zg_spro, zg_sstp, zg_swrd, zu_srock2, zu_stug2, zu_ssun, zu_ssun0, zu_srock, zu_srock0, zu_stug, zu_stug0, zu_sord, zu_sord0, zu_srep, zu_srep0, zu_scla, zu_scla0, zu_scon, zu_scon0, zu_swin, zu_swin0, zu_sleg, zu_sleg0, zu_spro, zu_sstp, zu_swrd]
        rfl
      | succ m ihm =>
        intro k s C v8 hk hsp hD hM h17
        obtain ⟨h11, h3, hW, hKK⟩ := id hD
        obtain ⟨⟨b33, b34, b35⟩, m12, m13, m14, mpa, mbl, mb6, mbe, mtl⟩ := id hM
        have hk16 : k < 16 := by omega
        have hkn : ¬ nI k = nI nw := fun h => by have := (nI_eq (by omega) (by omega)).mp h; omega
        obtain ⟨C1, hC1⟩ : ∃ C1, C1 = zcs C 417 (zup (C 417) 0 many (nI (k + 1))) := ⟨_, rfl⟩
        have o1 : ∀ g, g ≠ 417 → C1 g = C g := fun g e => by rw [hC1, zcs_n _ _ e]
        have fr1 : zFm C C1 many := by
          refine ⟨fun g hg => o1 g (by omega), fun f _ => by rw [o1 _ (by decide)], fun j hj => ?_, fun j hj => ?_⟩
          · rw [o1 412 (by decide), o1 413 (by decide), o1 414 (by decide)]; exact ⟨rfl, rfl, rfl⟩
          · rw [o1 415 (by decide), o1 416 (by decide), hC1, zcs_eq, zup_n _ _ (by omega)]; exact ⟨rfl, rfl, rfl⟩
        have hM1 : zMk C1 many rs pa dy fu s := by
          unfold zMk
          rw [o1 401 (by decide), o1 412 (by decide), o1 413 (by decide), o1 414 (by decide), o1 415 (by decide), o1 416 (by decide), o1 418 (by decide)]
          exact hM
        obtain ⟨t1, t2⟩ := T245 (d + 3) L p0 p2 r2 r3 s4 many k rk dy fu rt nr e C1 wd K pa hm6 hk16 hrkn hr8 hdy hfu hrt50 he2 (hwd k (by omega)) (by rw [o1 _ (by decide), hrk]; exact m12 many (by omega)) (by rw [o1 _ (by decide)]; exact m13) (by rw [o1 _ (by decide)]; exact m14) (by rw [o1 _ (by decide)]; exact hW k (by omega)) (by rw [o1 _ (by decide)]; exact (hKK rk hrkn).1) (by rw [o1 _ (by decide)]; exact h3) (fun j hj => by rw [o1 _ (by decide)]; exact (mpa j hj).1)
        have hz : zlp (zstep wd K rt e (fun a b c f w x p s => zsch wd K rt e nw D a b c f w x p s) many rk dy fu wo se pa) (m + 1) k s = zlp (zstep wd K rt e (fun a b c f w x p s => zsch wd K rt e nw D a b c f w x p s) many rk dy fu wo se pa) m (k + 1) (zstep wd K rt e (fun a b c f w x p s => zsch wd K rt e nw D a b c f w x p s) many rk dy fu wo se pa k s) := by
          show (if s.2.1 = true then s else _) = _
          rw [if_neg (by rw [hsp]; exact Bool.false_ne_true)]
        rw [hz]
        have hz3 : zup (C 417) 0 many (nI k + 1) = zup (C 417) 0 many (nI (k + 1)) := by rw [show nI k + 1 = nI (k + 1) from nI_add k 1]
        by_cases hok : zok wd K rt e k many pa rk dy fu
        case neg =>
          have hst : zstep wd K rt e (fun a b c f w x p s => zsch wd K rt e nw D a b c f w x p s) many rk dy fu wo se pa k s = s := by
            unfold zstep
            rw [if_neg hok]
          have t1 := t1 hok
          rw [hst]
          obtain ⟨C', f1, f2⟩ := ihm (k + 1) s C1 (.int (nI k)) (by omega) hsp (zDm_c hD fr1) hM1 (by rw [hC1, zcs_eq, zup_g])
          have hrun : zR (d + 4) 242 102 [.ref 201, .int y1, .int y2, .int y3, .int (nI e), .int y5, .int (nI s.1), .int (nI many), v8] [] (zZ L, zI C, zPd p0 p2 r2 r3 s4) = zR (d + 4) 242 102 [.ref 201, .int y1, .int y2, .int y3, .int (nI e), .int y5, .int (nI s.1), .int (nI many), .int (nI k)] [] (zZ L, zI C1, zPd p0 p2 r2 r3 s4) := by
            rw [e242_102, if_neg c1, e242_107, if_neg c2, e242_114, hC1]
            rw [hC1] at t1
            simp +decide (disch := omega) only [e242_137, e242_167, e242_170, h17, h11, hkn, t1, zpre, ite_self, Nat.reduceAdd, zs1, zs2, zs3, zI_eqb, and_self, not_true_eq_false, if_true, if_false, ite_true, ite_false, not_false_eq_true, zBP, zBZ, zisO, zisA, zlen, decide_true, decide_false, Bool.and_self, Bool.and_true, Bool.true_and, cond_true, cond_false, zBG, zBR, zBU, zBV, zinb_n, zix_n, zlA, zlB, zlM, zlN, zlX, zlI, nI_add, Nat.add_eq_zero_iff, false_and, and_false, and_true, true_and, true_or, or_true, false_or, or_false, zbool_i, zb0, zb1, zshp_0, zcs_eq, zcs_n, zcs_cs, zup_g, zup_n, zg_srock2, zg_stug2, zg_ssun, zg_ssun0, zg_srock, zg_srock0, zg_stug, zg_stug0, zg_sord, zg_sord0, zg_srep, zg_srep0, zg_scla, zg_scla0, zg_scon, zg_scon0, zg_swin, zg_swin0, zg_sleg, zg_sleg0, zg_spro, zg_sstp, zg_swrd, zu_srock2, zu_stug2, zu_ssun, zu_ssun0, zu_srock, zu_srock0, zu_stug, zu_stug0, zu_sord, zu_sord0, zu_srep, zu_srep0, zu_scla, zu_scla0, zu_scon, zu_scon0, zu_swin, zu_swin0, zu_sleg, zu_sleg0, zu_spro, zu_sstp, zu_swrd]
          rw [hrun]
          exact ⟨C', zFm_t fr1 f1, f2⟩
        have t2 := t2 hok
        have hstep := (show zstep wd K rt e (fun a b c f w x p s => zsch wd K rt e nw D a b c f w x p s) many rk dy fu wo se pa k s = _ from if_pos hok)
        dsimp only at hstep
        rw [hstep]
        obtain ⟨x0, x1, x2, x3, x4, x5⟩ := hwd k (by omega)
        have hlv : zlv wd k dy ≤ 2000 ∧ dy ≤ zlv wd k dy := by unfold zlv; omega
        have hfw9 : zfw wd K rt k rk dy fu ≤ 999 := by unfold zfw; split <;> omega
        have f4 : zlv wd k dy + wd k 5 ≤ e := hok.2.2.2.1
        obtain ⟨LV, hLV⟩ : ∃ LV, LV = zlv wd k dy := ⟨_, rfl⟩
        obtain ⟨FW, hFW⟩ : ∃ FW, FW = zfw wd K rt k rk dy fu := ⟨_, rfl⟩
        rw [← hLV] at hlv t2 f4 ⊢
        rw [← hFW] at hfw9 t2 ⊢
        obtain ⟨C2, hC2⟩ : ∃ C2, C2 = ztkn C1 many k LV (wd k 1) (LV + wd k 5) (FW - wd k 4) := ⟨_, rfl⟩
        rw [← hC2] at t2
        have o2 : ∀ g, ¬ (412 ≤ g ∧ g ≤ 416) → C2 g = C1 g := fun g hg => by
          rw [hC2]; unfold ztkn
          rw [zcs_n _ _ (by omega), zcs_n _ _ (by omega), zcs_n _ _ (by omega), zcs_n _ _ (by omega), zcs_n _ _ (by omega)]
        have q2 : C2 412 = zup (C1 412) 0 (many + 1) (nI (wd k 1)) ∧ C2 413 = zup (C1 413) 0 (many + 1) (nI (LV + wd k 5)) ∧ C2 414 = zup (C1 414) 0 (many + 1) (nI (FW - wd k 4)) ∧ C2 415 = zup (C1 415) 0 many (nI k) ∧ C2 416 = zup (C1 416) 0 many (nI LV) := by
          rw [hC2]; unfold ztkn
          simp (disch := omega) only [zcs_eq, zcs_n, and_self]
        obtain ⟨q12, q13, q14, q15, q16⟩ := q2
        have fr2 : zFm C1 C2 many := by
          refine ⟨fun g hg => o2 g (by omega), fun f _ => by rw [o2 401 (by omega)], fun j hj => ?_, fun j hj => ?_⟩
          · rw [q12, q13, q14, zup_n _ _ (by omega), zup_n _ _ (by omega), zup_n _ _ (by omega)]; exact ⟨rfl, rfl, rfl⟩
          · rw [q15, q16, o2 417 (by omega), zup_n _ _ (by omega), zup_n _ _ (by omega)]; exact ⟨rfl, rfl, rfl⟩
        by_cases ht : s.1 = 0
        · rw [if_pos ht]
          refine ⟨C2, zFm_t fr1 fr2, Or.inl ⟨by rw [hq _ _ _ rfl], ?_⟩⟩
          have h0 : nI s.1 = 0 := by rw [ht]; rfl
          have h0' := eq_true h0
          rw [e242_102, if_neg c1, e242_107, if_neg c2, e242_114]
          rw [hC1] at t2
          simp +decide (disch := omega) only [e242_137, e242_167, e242_173, e242_178, h17, h11, hkn, t2, h0', zpre, ite_self, Nat.reduceAdd, zs1, zs2, zs3, zI_eqb, and_self, not_true_eq_false, if_true, if_false, ite_true, ite_false, not_false_eq_true, zBP, zBZ, zisO, zisA, zlen, decide_true, decide_false, Bool.and_self, Bool.and_true, Bool.true_and, cond_true, cond_false, zBG, zBR, zBU, zBV, zinb_n, zix_n, zlA, zlB, zlM, zlN, zlX, zlI, nI_add, Nat.add_eq_zero_iff, false_and, and_false, and_true, true_and, true_or, or_true, false_or, or_false, zbool_i, zb0, zb1, zshp_0, zcs_eq, zcs_n, zcs_cs, zup_g, zup_n, zg_srock2, zg_stug2, zg_ssun, zg_ssun0, zg_srock, zg_srock0, zg_stug, zg_stug0, zg_sord, zg_sord0, zg_srep, zg_srep0, zg_scla, zg_scla0, zg_scon, zg_scon0, zg_swin, zg_swin0, zg_sleg, zg_sleg0, zg_spro, zg_sstp, zg_swrd, zu_srock2, zu_stug2, zu_ssun, zu_ssun0, zu_srock, zu_srock0, zu_stug, zu_stug0, zu_sord, zu_sord0, zu_srep, zu_srep0, zu_scla, zu_scla0, zu_scon, zu_scon0, zu_swin, zu_swin0, zu_sleg, zu_sleg0, zu_spro, zu_sstp, zu_swrd]
        rw [if_neg ht]
        obtain ⟨t, hst⟩ : ∃ t, s.1 = t + 1 := ⟨s.1 - 1, by omega⟩
        rw [show s.1 - 1 = t by omega]
        have hn0 : ¬ nI (t + 1) = 0 := nI_ne0 (by omega) (by omega)
        obtain ⟨rs', hrs'⟩ : ∃ rs' : Nat → Nat, rs' = fun j => if j = many + 1 then wd k 1 else rs j := ⟨_, rfl⟩
        have hrsn : rs' (many + 1) = wd k 1 := by rw [hrs']; exact if_pos rfl
        have hrso : ∀ j, j ≤ many → rs' j = rs j := fun j hj => by rw [hrs']; exact if_neg (by omega)
        have hwc : zwo K rs' many = zwo K rs many := zwo_c many hrso
        have hw1 : zwo K rs' (many + 1) = (wo + (if ((se >>> (nI (wd k 1) &&& 31)) &&& 1) = 0 then K (wd k 1) 9 else 0), se ||| ((1 : Int32) <<< (nI (wd k 1) &&& 31))) := by
          show (_, _) = _
          rw [hwc, hrsn, hwo, hse]
        obtain ⟨pa', hpa⟩ : ∃ pa', pa' = zleg pa many k LV (LV + wd k 5) (FW - wd k 4) := ⟨_, rfl⟩
        rw [← hpa]
        have hw1a := congrArg Prod.fst hw1
        have hw1b := congrArg Prod.snd hw1
        dsimp only at hw1a hw1b
        rw [← hw1a, ← hw1b]
        obtain ⟨C3, hC3⟩ : ∃ C3, C3 = zcs C2 417 (zup (C2 417) 0 (many + 1) 0) := ⟨_, rfl⟩
        have o3 : ∀ g, g ≠ 417 → C3 g = C2 g := fun g e => by rw [hC3, zcs_n _ _ e]
        have p3 : ∀ j, j < many + 1 → C3 415 0 j = pa' j 0 ∧ C3 416 0 j = pa' j 1 ∧ C3 413 0 (j + 1) = pa' j 2 ∧ C3 414 0 (j + 1) = pa' j 3 := by
          intro j hj
          rw [o3 415 (by decide), o3 416 (by decide), o3 413 (by decide), o3 414 (by decide), q15, q16, q13, q14, hpa]
          unfold zleg
          by_cases ej : j = many
          · subst ej
            simp +decide only [zup_g, if_true, if_false, and_self]
          · rw [zup_n _ _ (by omega), zup_n _ _ (by omega), zup_n _ _ (by omega), zup_n _ _ (by omega), if_neg ej, if_neg ej, if_neg ej, if_neg ej, o1 415 (by decide), o1 416 (by decide), o1 413 (by decide), o1 414 (by decide)]
            exact mpa j (by omega)
        have rr3 : ∀ j, j ≤ many + 1 → rs' j < nr ∧ C3 412 0 j = nI (rs' j) := by
          intro j hj
          rw [o3 412 (by decide), q12]
          by_cases ej : j = many + 1
          · subst ej
            rw [hrsn, zup_g]; exact ⟨x1, rfl⟩
          · rw [zup_n _ _ (by omega), o1 412 (by decide), hrso j (by omega)]
            exact ⟨hrs j (by omega), m12 j (by omega)⟩
        have d3 : C3 413 0 (many + 1) = nI (LV + wd k 5) := by rw [o3 _ (by decide), q13, zup_g]
        have g3 : C3 414 0 (many + 1) = nI (FW - wd k 4) := by rw [o3 _ (by decide), q14, zup_g]
        have z401 : C3 401 = C 401 := by rw [o3 _ (by decide), o2 _ (by omega), o1 _ (by decide)]
        have z418 : C3 418 = C 418 := by rw [o3 _ (by decide), o2 _ (by omega), o1 _ (by decide)]
        have z42 : C3 42 = C 42 := by rw [o3 _ (by decide), o2 _ (by omega), o1 _ (by decide)]
        have t3 := T243 (d + 2) L p0 p2 r2 r3 s4 (many + 1) nr (LV + wd k 5) C3 K rs' pa' (t, s.2) (by omega) hr8 (by omega) rr3 (fun r hr => by rw [z42]; exact (hKK r hr).2) p3 d3 (by rw [z401]; exact ⟨b33, b34, b35⟩) mb6 mbe
        obtain ⟨C4, hC4⟩ : ∃ C4, C4 = (if zbet (zwo K rs' (many + 1)).1 (LV + wd k 5) (many + 1) (t, s.2) = true then zcs (zcs C3 401 (zup (zup (zup (C3 401) 0 33 (nI (many + 1))) 0 34 (zwo K rs' (many + 1)).1) 0 35 (nI (LV + wd k 5)))) 418 (zbl (C3 418) pa' 0 (many + 1)) else C3) := ⟨_, rfl⟩
        rw [← hC4] at t3
        have o4 : ∀ g, g ≠ 401 → g ≠ 418 → C4 g = C3 g := fun g e1 e2 => by
          rw [hC4]
          split
          · rw [zcs_n _ _ e2, zcs_n _ _ e1]
          · rfl
        have u4 : ∀ f, f < 33 ∨ 35 < f → C4 401 0 f = C 401 0 f := fun f hf => by
          rw [hC4]
          split
          · rw [zcs_n _ _ (by decide), zcs_eq, zup_n _ _ (by omega), zup_n _ _ (by omega), zup_n _ _ (by omega), z401]
          · rw [z401]
        have hM4 : zMk C4 (many + 1) rs' pa' (LV + wd k 5) (FW - wd k 4) (zcons (zwo K rs' (many + 1)).1 (LV + wd k 5) (many + 1) pa' (t, s.2)) := by
          unfold zMk
          rw [o4 412 (by decide) (by decide), o4 413 (by decide) (by decide), o4 414 (by decide) (by decide), o4 415 (by decide) (by decide), o4 416 (by decide) (by decide)]
          unfold zcons
          by_cases hb : zbet (zwo K rs' (many + 1)).1 (LV + wd k 5) (many + 1) (t, s.2) = true
          · rw [if_pos hb] at hC4
            rw [if_pos hb, hC4]
            simp (disch := omega) only [zcs_eq, zcs_n, zup_g, zup_n]
            exact ⟨⟨trivial, trivial, trivial⟩, fun j hj => (rr3 j hj).2, d3, g3, p3, fun i hi f hf => zbl_in hi hf, by omega, by omega, by omega⟩
          · rw [if_neg hb] at hC4
            rw [if_neg hb, hC4, z401, z418]
            exact ⟨⟨b33, b34, b35⟩, fun j hj => (rr3 j hj).2, d3, g3, p3, mbl, mb6, mbe, by dsimp only; omega⟩
        have fr4 : zFm C2 C4 many := by
          refine ⟨fun g hg => by rw [o4 g (by omega) (by omega), o3 g (by omega)], fun f hf => by rw [u4 f hf, o2 401 (by omega), o1 401 (by decide)], fun j hj => ?_, fun j hj => ?_⟩
          · rw [o4 412 (by decide) (by decide), o4 413 (by decide) (by decide), o4 414 (by decide) (by decide), o3 412 (by decide), o3 413 (by decide), o3 414 (by decide)]; exact ⟨rfl, rfl, rfl⟩
          · rw [o4 415 (by decide) (by decide), o4 416 (by decide) (by decide), o4 417 (by decide) (by decide), o3 415 (by decide), o3 416 (by decide), hC3, zcs_eq, zup_n _ _ (by omega)]; exact ⟨rfl, rfl, rfl⟩
        have frT : zFm C C4 many := zFm_t fr1 (zFm_t fr2 fr4)
        have h174 : C4 417 0 many = nI (k + 1) ∧ C4 417 0 (many + 1) = nI 0 := by
          rw [o4 417 (by decide) (by decide), hC3, zcs_eq, zup_g, zup_n _ _ (by omega), o2 417 (by omega), hC1, zcs_eq, zup_g]
          exact ⟨rfl, rfl⟩
        have hsp4 : (zcons (zwo K rs' (many + 1)).1 (LV + wd k 5) (many + 1) pa' (t, s.2)).2.1 = false := by
          unfold zcons
          split
          · exact hsp
          · exact hsp
        have hs41 : (zcons (zwo K rs' (many + 1)).1 (LV + wd k 5) (many + 1) pa' (t, s.2)).1 = t := by
          unfold zcons
          split <;> rfl
        obtain ⟨C5, i1, i2⟩ := ihD (many + 1) (LV + wd k 5) (FW - wd k 4) rs' pa' (zcons (zwo K rs' (many + 1)).1 (LV + wd k 5) (many + 1) pa' (t, s.2)) C4 (.int (nI k)) (by omega) hsp4 (fun j hj => (rr3 j hj).1) (by omega) (by omega) (zDm_c hD frT) hM4 h174.2
        rw [hrsn, hs41] at i2
        obtain ⟨s5, hs5⟩ : ∃ s5, s5 = zsch wd K rt e nw D (many + 1) (wd k 1) (LV + wd k 5) (FW - wd k 4) (zwo K rs' (many + 1)).1 (zwo K rs' (many + 1)).2 pa' (zcons (zwo K rs' (many + 1)).1 (LV + wd k 5) (many + 1) pa' (t, s.2)) := ⟨_, rfl⟩
        rw [← hs5] at i2 ⊢
        have frA : zFm C C5 many := zFm_t frT (zFm_w i1)
        have hrun : zR (d + 4) 242 102 [.ref 201, .int y1, .int y2, .int y3, .int (nI e), .int y5, .int (nI s.1), .int (nI many), v8] [] (zZ L, zI C, zPd p0 p2 r2 r3 s4) = zR (d + 4) 242 102 [.ref 201, .int y1, .int y2, .int y3, .int (nI e), .int y5, .int (nI t), .int (nI (many + 1)), .int (nI k)] [] (zZ L, zI C4, zPd p0 p2 r2 r3 s4) := by
          rw [e242_102, if_neg c1, e242_107, if_neg c2, e242_114]
          rw [hC1] at t2
          rw [hst]
          rw [hC3] at t3
          simp +decide (disch := omega) only [e242_137, e242_167, e242_173, e242_182, e242_202, h17, h11, hkn, t2, hn0, t3, nI_pm, zpre, ite_self, Nat.reduceAdd, zs1, zs2, zs3, zI_eqb, and_self, not_true_eq_false, if_true, if_false, ite_true, ite_false, not_false_eq_true, zBP, zBZ, zisO, zisA, zlen, decide_true, decide_false, Bool.and_self, Bool.and_true, Bool.true_and, cond_true, cond_false, zBG, zBR, zBU, zBV, zinb_n, zix_n, zlA, zlB, zlM, zlN, zlX, zlI, nI_add, Nat.add_eq_zero_iff, false_and, and_false, and_true, true_and, true_or, or_true, false_or, or_false, zbool_i, zb0, zb1, zshp_0, zcs_eq, zcs_n, zcs_cs, zup_g, zup_n, zg_srock2, zg_stug2, zg_ssun, zg_ssun0, zg_srock, zg_srock0, zg_stug, zg_stug0, zg_sord, zg_sord0, zg_srep, zg_srep0, zg_scla, zg_scla0, zg_scon, zg_scon0, zg_swin, zg_swin0, zg_sleg, zg_sleg0, zg_spro, zg_sstp, zg_swrd, zu_srock2, zu_stug2, zu_ssun, zu_ssun0, zu_srock, zu_srock0, zu_stug, zu_stug0, zu_sord, zu_sord0, zu_srep, zu_srep0, zu_scla, zu_scla0, zu_scon, zu_scon0, zu_swin, zu_swin0, zu_sleg, zu_sleg0, zu_spro, zu_sstp, zu_swrd]
        rcases i2 with ⟨i3, i4⟩ | ⟨i3, v, i4, i5⟩
        · refine ⟨C5, frA, Or.inl ⟨by rw [hq _ _ _ i3]; exact i3, ?_⟩⟩
          rw [hrun]
          exact i4
        · have hM5 : zMk C5 many rs pa dy fu s5 := by
            obtain ⟨j1, j2, j3, j4, j5, j6, j7⟩ := i5
            obtain ⟨k1, k2, k3, k4⟩ := frA
            refine ⟨j1, fun j hj => by rw [(k3 j hj).1]; exact m12 j hj, by rw [(k3 many (by omega)).2.1]; exact m13, by rw [(k3 many (by omega)).2.2]; exact m14, fun j hj => ?_, j6, j7⟩
            rw [(k4 j hj).1, (k4 j hj).2.1, (k3 (j + 1) (by omega)).2.1, (k3 (j + 1) (by omega)).2.2]
            exact mpa j hj
          have h175 : C5 417 0 many = nI (k + 1) := by rw [(i1.2.2.2 many (by omega)).2.2]; exact h174.1
          obtain ⟨C', f1, f2⟩ := ihm (k + 1) s5 C5 v (by omega) i3 (zDm_c hD frA) hM5 h175
          rw [hrun, i4, e242_131, nI_pm]
          exact ⟨C', zFm_t frA f1, f2⟩
    obtain ⟨C', f1, f2⟩ := hloop nw 0 s C v8 (by omega) hsp hD hM h17
    rw [hrk, hwo, hse] at f2
    exact ⟨C', f1, f2⟩

