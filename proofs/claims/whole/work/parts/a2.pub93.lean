/-! THE LAW: its loop, printed by wip/gen/pub93.py -/
theorem LWS (d L i : Nat) (C : zCt) (p0 p2 r2 r3 s4 : Nat) (hi : i + 7 ≤ L) (hL : L < 2147483648) (hR : zRep C) (x : Int32) : ∃ (C' : zCt) (q : Nat × Nat × Nat × Nat × Nat), zR (d + 121) 255 (zswT 33 (1513) (0) (37) #[167, 210, 273, 316, 359, 382, 415, 448, 491, 524, 577, 610, 643, 676, 709, 752, 775, 798, 831, 854, 887, 920, 953, 1006, 1069, 1102, 1115, 1190, 1203, 1266, 1289, 1312, 1325, 1338, 1351, 1384, 1427, 1490] x) [.ref 0, .ref 1, .ref 201, .int (nI i)] [] (zZ L, zI C, zPd p0 p2 r2 r3 s4) = zR (d + 121) 255 1546 [.ref 0, .ref 1, .ref 201, .int (nI i)] [] (zZ L, zI C', zPd q.1 q.2.1 q.2.2.1 q.2.2.2.1 q.2.2.2.2) ∧ zRep C' := by
  unfold zswT
  split
  · exact ⟨C, (p0, p2, r2, r3, s4), rfl, hR⟩
  · rename_i hx
    obtain ⟨k, hk, e⟩ : ∃ k, k < 38 ∧ (x.toInt - 0).toNat = k := ⟨_, by omega, rfl⟩
    rw [e]
    clear e hx
    match k, hk with
    | 0, _ => exact LW_0 d L i C p0 p2 r2 r3 s4 hi hL hR
    | 1, _ => exact LW_1 d L i C p0 p2 r2 r3 s4 hi hL hR
    | 2, _ => exact LW_2 d L i C p0 p2 r2 r3 s4 hi hL hR
    | 3, _ => exact LW_3 d L i C p0 p2 r2 r3 s4 hi hL hR
    | 4, _ => exact LW_4 d L i C p0 p2 r2 r3 s4 hi hL hR
    | 5, _ => exact LW_5 d L i C p0 p2 r2 r3 s4 hi hL hR
    | 6, _ => exact LW_6 d L i C p0 p2 r2 r3 s4 hi hL hR
    | 7, _ => exact LW_7 d L i C p0 p2 r2 r3 s4 hi hL hR
    | 8, _ => exact LW_8 d L i C p0 p2 r2 r3 s4 hi hL hR
    | 9, _ => exact LW_9 d L i C p0 p2 r2 r3 s4 hi hL hR
    | 10, _ => exact LW_10 d L i C p0 p2 r2 r3 s4 hi hL hR
    | 11, _ => exact LW_11 d L i C p0 p2 r2 r3 s4 hi hL hR
    | 12, _ => exact LW_12 d L i C p0 p2 r2 r3 s4 hi hL hR
    | 13, _ => exact LW_13 d L i C p0 p2 r2 r3 s4 hi hL hR
    | 14, _ => exact LW_14 d L i C p0 p2 r2 r3 s4 hi hL hR
    | 15, _ => exact LW_15 d L i C p0 p2 r2 r3 s4 hi hL hR
    | 16, _ => exact LW_16 d L i C p0 p2 r2 r3 s4 hi hL hR
    | 17, _ => exact LW_17 d L i C p0 p2 r2 r3 s4 hi hL hR
    | 18, _ => exact LW_18 d L i C p0 p2 r2 r3 s4 hi hL hR
    | 19, _ => exact LW_19 d L i C p0 p2 r2 r3 s4 hi hL hR
    | 20, _ => exact LW_20 d L i C p0 p2 r2 r3 s4 hi hL hR
    | 21, _ => exact LW_21 d L i C p0 p2 r2 r3 s4 hi hL hR
    | 22, _ => exact LW_22 d L i C p0 p2 r2 r3 s4 hi hL hR
    | 23, _ => exact LW_23 d L i C p0 p2 r2 r3 s4 hi hL hR
    | 24, _ => exact LW_24 d L i C p0 p2 r2 r3 s4 hi hL hR
    | 25, _ => exact LW_25 d L i C p0 p2 r2 r3 s4 hi hL hR
    | 26, _ => exact LW_26 d L i C p0 p2 r2 r3 s4 hi hL hR
    | 27, _ => exact LW_27 d L i C p0 p2 r2 r3 s4 hi hL hR
    | 28, _ => exact LW_28 d L i C p0 p2 r2 r3 s4 hi hL hR
    | 29, _ => exact LW_29 d L i C p0 p2 r2 r3 s4 hi hL hR
    | 30, _ => exact LW_30 d L i C p0 p2 r2 r3 s4 hi hL hR
    | 31, _ => exact LW_31 d L i C p0 p2 r2 r3 s4 hi hL hR
    | 32, _ => exact LW_32 d L i C p0 p2 r2 r3 s4 hi hL hR
    | 33, _ => exact LW_33 d L i C p0 p2 r2 r3 s4 hi hL hR
    | 34, _ => exact LW_34 d L i C p0 p2 r2 r3 s4 hi hL hR
    | 35, _ => exact LW_35 d L i C p0 p2 r2 r3 s4 hi hL hR
    | 36, _ => exact LW_36 d L i C p0 p2 r2 r3 s4 hi hL hR
    | 37, _ => exact LW_37 d L i C p0 p2 r2 r3 s4 hi hL hR
    | k + 38, hk => exact absurd hk (by omega)
theorem LAWL (d L : Nat) (hL : L < 2147483648) : ∀ (m i : Nat) (C : zCt) (p0 p2 r2 r3 s4 : Nat), L < i + m → i ≤ L → zRep C → ∃ (C' : zCt) (q : Nat × Nat × Nat × Nat × Nat), zR (d + 121) 255 18 [.ref 0, .ref 1, .ref 201, .int (nI i)] [] (zZ L, zI C, zPd p0 p2 r2 r3 s4) = some (some (.int 1), (zZ L, zI C', zPd q.1 q.2.1 q.2.2.1 q.2.2.2.1 q.2.2.2.2)) := by
  intro m
  induction m with
  | zero => intro i C p0 p2 r2 r3 s4 h1 h2; omega
  | succ m IH =>
    intro i C p0 p2 r2 r3 s4 h1 h2 hR
    by_cases h7 : i + 7 ≤ L
    · have c1 : ¬ nI L - 7 < nI i := by
        rw [show nI L - 7 = nI (L - 7) from nI_sub (a := L) (b := 7) (by omega)]
        exact Int32.not_lt.mpr (nI_le (by omega) (by omega))
      obtain ⟨C1, q, e1, hR1⟩ := LWS d L i C p0 p2 r2 r3 s4 h7 hL hR (C 100 0 i &&& 63)
      obtain ⟨C2, q2, e2⟩ := IH (i + 7) C1 q.1 q.2.1 q.2.2.1 q.2.2.2.1 q.2.2.2.2 (by omega) h7 hR1
      refine ⟨C2, q2, ?_⟩
      rw [e255_1546, show nI i + 7 = nI (i + 7) from nI_add i 7, e2] at e1
      rw [e255_18]
      simp +decide (disch := omega) only [e255_27, c1, e1, List.cons_append, List.nil_append, zpre, ite_self, Nat.reduceAdd, zs1, zs2, zs3, zI_eqb, and_self, not_true_eq_false, if_true, if_false, ite_true, ite_false, not_false_eq_true, zBP, zBZ, zisO, zisA, zlen, decide_true, decide_false, Bool.and_self, Bool.and_true, Bool.true_and, cond_true, cond_false, zBG, zBR, zBU, zBV, zinb_n, zix_n, zlA, zlB, zlM, zlN, zlX, zlI, nI_add, Nat.add_eq_zero_iff, false_and, and_false, and_true, true_and, true_or, or_true, false_or, or_false, zbool_i, zb0, zb1, zshp_0, zcs_eq, zcs_n, zcs_cs, zup_g, zup_n, zg_srock2, zg_stug2, zg_ssun, zg_ssun0, zg_srock, zg_srock0, zg_stug, zg_stug0, zg_sord, zg_sord0, zg_srep, zg_srep0, zg_scla, zg_scla0, zg_scon, zg_scon0, zg_swin, zg_swin0, zg_sleg, zg_sleg0, zg_spro, zg_sstp, zg_swrd, zu_srock2, zu_stug2, zu_ssun, zu_ssun0, zu_srock, zu_srock0, zu_stug, zu_stug0, zu_sord, zu_sord0, zu_srep, zu_srep0, zu_scla, zu_scla0, zu_scon, zu_scon0, zu_swin, zu_swin0, zu_sleg, zu_sleg0, zu_spro, zu_sstp, zu_swrd]
    · have c1 : nI L - 7 < nI i := by
        by_cases h8 : 7 ≤ L
        · rw [show nI L - 7 = nI (L - 7) from nI_sub (a := L) (b := 7) h8]
          exact nI_lt (by omega) (by omega)
        · exact Int32.lt_of_lt_of_le (nI_sneg (a := L) (b := 7) (by omega) (by decide)) (nI_le (a := 0) (Nat.zero_le _) (by omega))
      refine ⟨C, (p0, p2, r2, r3, s4), ?_⟩
      rw [e255_18]
      simp +decide (disch := omega) only [e255_1552, c1, zpre, ite_self, Nat.reduceAdd, zs1, zs2, zs3, zI_eqb, and_self, not_true_eq_false, if_true, if_false, ite_true, ite_false, not_false_eq_true, zBP, zBZ, zisO, zisA, zlen, decide_true, decide_false, Bool.and_self, Bool.and_true, Bool.true_and, cond_true, cond_false, zBG, zBR, zBU, zBV, zinb_n, zix_n, zlA, zlB, zlM, zlN, zlX, zlI, nI_add, Nat.add_eq_zero_iff, false_and, and_false, and_true, true_and, true_or, or_true, false_or, or_false, zbool_i, zb0, zb1, zshp_0, zcs_eq, zcs_n, zcs_cs, zup_g, zup_n, zg_srock2, zg_stug2, zg_ssun, zg_ssun0, zg_srock, zg_srock0, zg_stug, zg_stug0, zg_sord, zg_sord0, zg_srep, zg_srep0, zg_scla, zg_scla0, zg_scon, zg_scon0, zg_swin, zg_swin0, zg_sleg, zg_sleg0, zg_spro, zg_sstp, zg_swrd, zu_srock2, zu_stug2, zu_ssun, zu_ssun0, zu_srock, zu_srock0, zu_stug, zu_stug0, zu_sord, zu_sord0, zu_srep, zu_srep0, zu_scla, zu_scla0, zu_scon, zu_scon0, zu_swin, zu_swin0, zu_sleg, zu_sleg0, zu_spro, zu_sstp, zu_swrd]

