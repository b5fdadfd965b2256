/-! THE RUN: what a tug does (4), printed by wip/gen/pub38.py -/
theorem zai (a b : Int32) (h : -2147483648 ≤ a.toInt + b.toInt ∧ a.toInt + b.toInt < 2147483648) : (a + b).toInt = a.toInt + b.toInt := by
  rw [Int32.toInt_add]
  unfold Int.bmod
  dsimp only
  split <;> omega
theorem zsi (a b : Int32) (h : -2147483648 ≤ a.toInt - b.toInt ∧ a.toInt - b.toInt < 2147483648) : (a - b).toInt = a.toInt - b.toInt := by
  rw [Int32.toInt_sub]
  unfold Int.bmod
  dsimp only
  split <;> omega
theorem zmn_i (a b : Int32) : (if b ≤ a then b else a).toInt = min a.toInt b.toInt := by
  by_cases h : b ≤ a
  · have := Int32.le_iff_toInt_le.mp h
    rw [if_pos h]; omega
  · have := Int32.lt_iff_toInt_lt.mp (Int32.not_le.mp h)
    rw [if_neg h]; omega
/-- what the model sheds -/
def zshN (W S : Int32) : Int32 := if 0 ≤ W then (if (if W ≤ 0 then 99 + S else 99 - S) ≤ zab W then (if W ≤ 0 then 99 + S else 99 - S) else zab W) else - (if (if W ≤ 0 then 99 + S else 99 - S) ≤ zab W then (if W ≤ 0 then 99 + S else 99 - S) else zab W)
theorem zshN_i (W S : Int32) (hW : -50 ≤ W ∧ W ≤ 50) (hS : -99 ≤ S ∧ S ≤ 99) : zheld (S + W).toInt64 (-99) 99 = S + zshN W S ∧ (-99 ≤ S + zshN W S ∧ S + zshN W S ≤ 99) ∧ (-50 ≤ W - zshN W S ∧ W - zshN W S ≤ 50) := by
  have c0 : (0 : Int32).toInt = 0 := rfl
  have c99 : (99 : Int32).toInt = 99 := rfl
  have cm99 : (-99 : Int32).toInt = -99 := rfl
  have c50 : (50 : Int32).toInt = 50 := rfl
  have cm50 : (-50 : Int32).toInt = -50 := rfl
  have w1 := Int32.le_iff_toInt_le.mp hW.1
  have w2 := Int32.le_iff_toInt_le.mp hW.2
  have s1 := Int32.le_iff_toInt_le.mp hS.1
  have s2 := Int32.le_iff_toInt_le.mp hS.2
  rw [cm50] at w1
  rw [c50] at w2
  rw [cm99] at s1
  rw [c99] at s2
  have ha := zab_i W (by omega)
  have e1 := zai 99 S (by omega)
  have e2 := zsi 99 S (by omega)
  rw [c99] at e1 e2
  have hN : (zshN W S).toInt = (if 0 ≤ W.toInt then min W.toInt (if W.toInt ≤ 0 then 99 + S.toInt else 99 - S.toInt) else - min (- W.toInt) (if W.toInt ≤ 0 then 99 + S.toInt else 99 - S.toInt)) := by
    unfold zshN
    by_cases h0 : 0 ≤ W
    · have h0' := Int32.le_iff_toInt_le.mp h0
      rw [c0] at h0'
      rw [if_pos h0, if_pos h0', zmn_i, ha, if_neg (show ¬ W.toInt < 0 by omega)]
      by_cases h1 : W ≤ 0
      · have h1' := Int32.le_iff_toInt_le.mp h1
        rw [c0] at h1'
        rw [if_pos h1, if_pos h1', e1]
      · have h1' := Int32.lt_iff_toInt_lt.mp (Int32.not_le.mp h1)
        rw [c0] at h1'
        rw [if_neg h1, if_neg (show ¬ W.toInt ≤ 0 by omega), e2]
    · have h0' := Int32.lt_iff_toInt_lt.mp (Int32.not_le.mp h0)
      rw [c0] at h0'
      have h1 : W ≤ 0 := Int32.le_of_lt (Int32.not_le.mp h0)
      rw [if_neg h0, if_neg (show ¬ (0 : Int) ≤ W.toInt by omega), if_pos h1, if_pos (show W.toInt ≤ 0 by omega)]
      have hm := zmn_i (zab W) (99 + S)
      rw [ha, if_pos h0', e1] at hm
      rw [zneg_i (by omega), hm]
  have hb : -50 ≤ (zshN W S).toInt ∧ (zshN W S).toInt ≤ 50 := by
    rw [hN]
    split <;> split <;> omega
  have f1 := zai S (zshN W S) (by omega)
  have f2 := zsi W (zshN W S) (by omega)
  have f3 := zai S W (by omega)
  have f4 := zheld_i (S + W).toInt64 (-99) 99 (by decide)
  rw [Int32.toInt_toInt64, f3, c99, cm99] at f4
  refine ⟨Int32.toInt_inj.mp ?_, ⟨Int32.le_iff_toInt_le.mpr ?_, Int32.le_iff_toInt_le.mpr ?_⟩, ⟨Int32.le_iff_toInt_le.mpr ?_, Int32.le_iff_toInt_le.mpr ?_⟩⟩
  · rw [f4, f1, hN]; split <;> split <;> omega
  · rw [f1, cm99, hN]; split <;> split <;> omega
  · rw [f1, c99, hN]; split <;> split <;> omega
  · rw [f2, cm50, hN]; split <;> split <;> omega
  · rw [f2, c50, hN]; split <;> split <;> omega
theorem zaddsub (S N : Int32) : S + N - S = N := by rw [Int32.add_comm]; exact Int32.add_sub_cancel _ _
/-- what the model stills -/
def zstN (W S : Int32) : Int32 := if 0 ≤ S then (if (if S ≤ 0 then 50 + W else 50 - W) ≤ (if 5 ≤ zab S then 5 else zab S) then (if S ≤ 0 then 50 + W else 50 - W) else (if 5 ≤ zab S then 5 else zab S)) else - (if (if S ≤ 0 then 50 + W else 50 - W) ≤ (if 5 ≤ zab S then 5 else zab S) then (if S ≤ 0 then 50 + W else 50 - W) else (if 5 ≤ zab S then 5 else zab S))
theorem zstN_i (W S : Int32) (hW : -50 ≤ W ∧ W ≤ 50) (hS : -99 ≤ S ∧ S ≤ 99) : zheld (W + zheld S.toInt64 (-5) 5).toInt64 (-50) 50 = W + zstN W S ∧ (-50 ≤ W + zstN W S ∧ W + zstN W S ≤ 50) ∧ (-99 ≤ S - zstN W S ∧ S - zstN W S ≤ 99) := by
  have c0 : (0 : Int32).toInt = 0 := rfl
  have c5 : (5 : Int32).toInt = 5 := rfl
  have cm5 : (-5 : Int32).toInt = -5 := rfl
  have c99 : (99 : Int32).toInt = 99 := rfl
  have cm99 : (-99 : Int32).toInt = -99 := rfl
  have c50 : (50 : Int32).toInt = 50 := rfl
  have cm50 : (-50 : Int32).toInt = -50 := rfl
  have w1 := Int32.le_iff_toInt_le.mp hW.1
  have w2 := Int32.le_iff_toInt_le.mp hW.2
  have s1 := Int32.le_iff_toInt_le.mp hS.1
  have s2 := Int32.le_iff_toInt_le.mp hS.2
  rw [cm50] at w1
  rw [c50] at w2
  rw [cm99] at s1
  rw [c99] at s2
  have ha := zab_i S (by omega)
  have e1 := zai 50 W (by omega)
  have e2 := zsi 50 W (by omega)
  rw [c50] at e1 e2
  have hq := zmn_i (zab S) 5
  rw [ha, c5] at hq
  have hN : (zstN W S).toInt = (if 0 ≤ S.toInt then min (min S.toInt 5) (if S.toInt ≤ 0 then 50 + W.toInt else 50 - W.toInt) else - min (min (- S.toInt) 5) (if S.toInt ≤ 0 then 50 + W.toInt else 50 - W.toInt)) := by
    unfold zstN
    by_cases h0 : 0 ≤ S
    · have h0' := Int32.le_iff_toInt_le.mp h0
      rw [c0] at h0'
      rw [if_neg (show ¬ S.toInt < 0 by omega)] at hq
      rw [if_pos h0, if_pos h0', zmn_i, hq]
      by_cases h1 : S ≤ 0
      · have h1' := Int32.le_iff_toInt_le.mp h1
        rw [c0] at h1'
        rw [if_pos h1, if_pos h1', e1]
      · have h1' := Int32.lt_iff_toInt_lt.mp (Int32.not_le.mp h1)
        rw [c0] at h1'
        rw [if_neg h1, if_neg (show ¬ S.toInt ≤ 0 by omega), e2]
    · have h0' := Int32.lt_iff_toInt_lt.mp (Int32.not_le.mp h0)
      rw [c0] at h0'
      have h1 : S ≤ 0 := Int32.le_of_lt (Int32.not_le.mp h0)
      rw [if_pos h0'] at hq
      rw [if_neg h0, if_neg (show ¬ (0 : Int) ≤ S.toInt by omega), if_pos h1, if_pos (show S.toInt ≤ 0 by omega)]
      have hm := zmn_i (if (5 : Int32) ≤ zab S then 5 else zab S) (50 + W)
      rw [hq, e1] at hm
      rw [zneg_i (by omega), hm]
  have hb : -5 ≤ (zstN W S).toInt ∧ (zstN W S).toInt ≤ 5 := by
    rw [hN]
    split <;> split <;> omega
  have f1 := zai W (zstN W S) (by omega)
  have f2 := zsi S (zstN W S) (by omega)
  have g1 := zheld_i S.toInt64 (-5) 5 (by decide)
  rw [Int32.toInt_toInt64, c5, cm5] at g1
  have f3 := zai W (zheld S.toInt64 (-5) 5) (by omega)
  have f4 := zheld_i (W + zheld S.toInt64 (-5) 5).toInt64 (-50) 50 (by decide)
  rw [Int32.toInt_toInt64, f3, g1, c50, cm50] at f4
  refine ⟨Int32.toInt_inj.mp ?_, ⟨Int32.le_iff_toInt_le.mpr ?_, Int32.le_iff_toInt_le.mpr ?_⟩, ⟨Int32.le_iff_toInt_le.mpr ?_, Int32.le_iff_toInt_le.mpr ?_⟩⟩
  · rw [f4, f1, hN]; split <;> split <;> omega
  · rw [f1, cm50, hN]; split <;> split <;> omega
  · rw [f1, c50, hN]; split <;> split <;> omega
  · rw [f2, cm99, hN]; split <;> split <;> omega
  · rw [f2, c99, hN]; split <;> split <;> omega

theorem A_shed (d1 d2 L p0 p2 r2 r3 s4 : Nat) (w : Nat → Nat → Nat) (u : Nat) (sa sb : Int32) (Ca Cb : zCt) (hu4 : u < 4) (hu : u < zix (Cb 40 0 6)) (hnum : Ca 392 0 4 = nI u) (h : zWu w u sa sb Ca Cb) : ∃ Ca' Cb', zR (d1 + 5) 59 0 [.ref 192, .int 8, zmk] [] (zZ L, zI Ca, zPd p0 p2 2 (45 + 4 * u) s4) = some (none, (zZ L, zI Ca', zPd p0 p2 2 (45 + 4 * u) s4)) ∧ zR (d2 + 5) 223 0 [.ref 201, .int (nI u), zmk, zmk, zmk, zmk, zmk] [] (zZ L, zI Cb, zPd p0 p2 r2 r3 s4) = some (none, (zZ L, zI Cb', zPd p0 p2 r2 r3 s4)) ∧ zWu w u sa sb Ca' Cb' ∧ zFa Ca Ca' ∧ zFb Cb Cb' ∧ (Ca' 392 = Ca 392 ∧ Ca' 393 = Ca 393 ∧ Cb' 40 0 6 = Cb 40 0 6 ∧ Cb' 40 0 0 = Cb 40 0 0) ∧ (Cb' 43 u 10 = Cb 43 u 10 ∧ Cb' 43 u 15 = Cb 43 u 15 ∧ Ca' 3 u 15 = Ca 3 u 15 ∧ ∀ g, 50 ≤ g → Cb' g = Cb g ∨ g = 410 ∨ g = 411) := by
  obtain ⟨hG, hS, hRR, ⟨hT, hU⟩, hO, hE, hC, hK, hW, hL, hP⟩ := id h
  have hGe := zRG_e hG
  obtain ⟨n, hn8, hn⟩ := hG.2.2.2.2.2.2.1
  obtain ⟨t, ht8, ht⟩ := hG.2.2.2.2.2.2.2.1
  have hn0 : Ca 0 0 5 = nI n := hGe.2.2.2.2.2.1.trans hn
  have ht0 : Ca 0 0 6 = nI t := hGe.2.2.2.2.2.2.1.trans ht
  have hue := zRU_e hU
  obtain ⟨k1, k2, k3, k4, k5, k6, k7, k8, k9, k10, k11, k12⟩ := id hU
  have hsw : zswT 66 (160) (3) (9) #[42, 66, 160, 124, 98, 146, 104] 8 = 212 := by decide
  rcases k9 with hd | ⟨r, hr, hd⟩
  · have hdm := eq_true hd
    refine ⟨Ca, Cb, ?_, ?_, h, zFa_r _, zFb_r _, ⟨by first | rfl | (simp (disch := omega) only [zcs_n]), by first | rfl | (simp (disch := omega) only [zcs_n]), by first | rfl | (simp (disch := omega) only [zcs_n]), by first | rfl | (simp (disch := omega) only [zcs_n])⟩, ⟨by first | rfl | (simp (disch := omega) only [zcs_eq, zcs_n, zup_n]), by first | rfl | (simp (disch := omega) only [zcs_eq, zcs_n, zup_n]), by first | rfl | (simp (disch := omega) only [zcs_eq, zcs_n, zup_n]), fun g hg => Or.inl (by first | rfl | (simp (disch := omega) only [zcs_n]))⟩⟩
    · simp +decide (disch := omega) only [e59_0, e59_5, e59_9, e59_14, e59_18, e59_23, e59_28, e59_34, e59_45, e59_48, e59_49, e59_108, e59_122, e59_132, e59_140, e59_146, e59_149, e59_157, e59_163, e59_164, e59_169, e59_170, e59_178, e59_189, e59_190, e59_198, e59_199, e59_205, e59_211, e59_212, e59_220, e59_225, e59_226, e87_0, e87_8, T85, hn0, hue, hd, znn_m, zpre, ite_self, zs1, zs2, zs3, zI_eqb, and_self, not_true_eq_false, if_true, if_false, ite_true, ite_false, not_false_eq_true, zBP, zBZ, zisO, zisA, zlen, decide_true, decide_false, Bool.and_self, Bool.and_true, Bool.true_and, cond_true, cond_false, zBG, zBR, zBU, zBV, zinb_n, zix_n, zlA, zlB, zlM, zlN, zlX, zlI, nI_add, Nat.add_eq_zero_iff, false_and, and_false, and_true, true_and, true_or, or_true, false_or, or_false, zbool_i, zb0, zb1, zshp_0, zcs_eq, zcs_n, zcs_cs, zup_g, zup_n, zp2_sun, zp2_rock, zp2_tug, zp2_contract, zp2_window, zp2_code, zp2_rbody, zp2_rstock, zp2_tfree, zp2_thold, zp2_tknown, zp2_ccells, zsh2_sun, zsh2_rock, zsh2_body, zsh2_stock, zsh2_tug, zsh2_free, zsh2_hold, zsh2_known, zsh2_contract, zsh2_window, zsh2_code, zsh2_cells, zg_nsun0, zg_nsun1, zg_nsun2, zg_nrock0, zg_nrock1, zg_nrock2, zg_nrock3, zg_nrock4, zg_nrock5, zg_nrock6, zg_nrock7, zg_nrock8, zg_nrock9, zg_nrock10, zg_nrock11, zg_nrock12, zg_nrock13, zg_nrock14, zg_ntug0, zg_ntug1, zg_ntug2, zg_ntug3, zg_ntug4, zg_ntug5, zg_ntug6, zg_ntug7, zg_ntug8, zg_ntug9, zg_ntug10, zg_ntug11, zg_ntug12, zg_ntug13, zg_ntug14, zg_ntug15, zg_ntug17, zg_ntug18, zg_ntug19, zg_ntug20, zg_ntug21, zg_ntug22, zg_ncon0, zg_ncon1, zg_ncon2, zg_ncon3, zg_ncon4, zg_ncon5, zg_ncon6, zg_nwin0, zg_nwin1, zg_nwin2, zg_nwin3, zg_nwin4, zg_nwin5, zg_ncode0, zg_ncode1, zg_ncode3, zg_nrule, zg_nstock, zg_nhold, zg_nknown, zg_nord, zg_nrep, zg_ncla, zg_ntou, zg_ncel, zu_nsun0, zu_nsun1, zu_nsun2, zu_nrock0, zu_nrock1, zu_nrock2, zu_nrock3, zu_nrock4, zu_nrock5, zu_nrock6, zu_nrock7, zu_nrock8, zu_nrock9, zu_nrock10, zu_nrock11, zu_nrock12, zu_nrock13, zu_nrock14, zu_ntug0, zu_ntug1, zu_ntug2, zu_ntug3, zu_ntug4, zu_ntug5, zu_ntug6, zu_ntug7, zu_ntug8, zu_ntug9, zu_ntug10, zu_ntug11, zu_ntug12, zu_ntug13, zu_ntug14, zu_ntug15, zu_ntug17, zu_ntug18, zu_ntug19, zu_ntug20, zu_ntug21, zu_ntug22, zu_ncon0, zu_ncon1, zu_ncon2, zu_ncon3, zu_ncon4, zu_ncon5, zu_ncon6, zu_nwin0, zu_nwin1, zu_nwin2, zu_nwin3, zu_nwin4, zu_nwin5, zu_ncode3, zu_nrule, zu_nstock, zu_nhold, zu_nknown, zu_nord, zu_nrep, zu_ncla, zu_ntou, zu_ncel]
    · simp +decide (disch := omega) only [e223_0, e223_32, hdm, zpre, ite_self, Nat.reduceAdd, zs1, zs2, zs3, zI_eqb, and_self, not_true_eq_false, if_true, if_false, ite_true, ite_false, not_false_eq_true, zBP, zBZ, zisO, zisA, zlen, decide_true, decide_false, Bool.and_self, Bool.and_true, Bool.true_and, cond_true, cond_false, zBG, zBR, zBU, zBV, zinb_n, zix_n, zlA, zlB, zlM, zlN, zlX, zlI, nI_add, Nat.add_eq_zero_iff, false_and, and_false, and_true, true_and, true_or, or_true, false_or, or_false, zbool_i, zb0, zb1, zshp_0, zcs_eq, zcs_n, zcs_cs, zup_g, zup_n, zg_srock2, zg_stug2, zg_ssun, zg_ssun0, zg_srock, zg_srock0, zg_stug, zg_stug0, zg_sord, zg_sord0, zg_srep, zg_srep0, zg_scla, zg_scla0, zg_scon, zg_scon0, zg_swin, zg_swin0, zg_sleg, zg_sleg0, zg_spro, zg_sstp, zg_swrd, zu_srock2, zu_stug2, zu_ssun, zu_ssun0, zu_srock, zu_srock0, zu_stug, zu_stug0, zu_sord, zu_sord0, zu_srep, zu_srep0, zu_scla, zu_scla0, zu_scon, zu_scon0, zu_swin, zu_swin0, zu_sleg, zu_sleg0, zu_spro, zu_sstp, zu_swrd]
  have hr' := hr
  rw [hn, zix_n (by omega)] at hr
  have hr8 : r < 8 := by omega
  have hk : 0 ≤ nI r ∧ ¬ nI n ≤ nI r := ⟨nI_pos' (by omega), nI_ge hr (by omega)⟩
  have hr1 := hRR r hr'
  have hre := zRR1_e hr1
  have hnm : ¬ nI r = -1 := by rw [nI_m (by omega)]; exact id
  obtain ⟨j1, j2, j3, j4, j5, j6, j7, j8, j9⟩ := id hr1
  by_cases g3 : Cb 42 r 0 = 3
  case neg =>
    refine ⟨Ca, Cb, ?_, ?_, h, zFa_r _, zFb_r _, ⟨by first | rfl | (simp (disch := omega) only [zcs_n]), by first | rfl | (simp (disch := omega) only [zcs_n]), by first | rfl | (simp (disch := omega) only [zcs_n]), by first | rfl | (simp (disch := omega) only [zcs_n])⟩, ⟨by first | rfl | (simp (disch := omega) only [zcs_eq, zcs_n, zup_n]), by first | rfl | (simp (disch := omega) only [zcs_eq, zcs_n, zup_n]), by first | rfl | (simp (disch := omega) only [zcs_eq, zcs_n, zup_n]), fun g hg => Or.inl (by first | rfl | (simp (disch := omega) only [zcs_n]))⟩⟩
    · simp +decide (disch := omega) only [e59_0, e59_5, e59_9, e59_14, e59_18, e59_23, e59_28, e59_34, e59_45, e59_48, e59_49, e59_108, e59_122, e59_132, e59_140, e59_146, e59_149, e59_157, e59_163, e59_164, e59_169, e59_170, e59_178, e59_189, e59_190, e59_198, e59_199, e59_205, e59_211, e59_212, e59_220, e59_225, e59_226, e87_0, e87_8, T85, hn0, ht0, hue, hre, hd, hk, znn_n, hsw, g3, zpre, ite_self, zs1, zs2, zs3, zI_eqb, and_self, not_true_eq_false, if_true, if_false, ite_true, ite_false, not_false_eq_true, zBP, zBZ, zisO, zisA, zlen, decide_true, decide_false, Bool.and_self, Bool.and_true, Bool.true_and, cond_true, cond_false, zBG, zBR, zBU, zBV, zinb_n, zix_n, zlA, zlB, zlM, zlN, zlX, zlI, nI_add, Nat.add_eq_zero_iff, false_and, and_false, and_true, true_and, true_or, or_true, false_or, or_false, zbool_i, zb0, zb1, zshp_0, zcs_eq, zcs_n, zcs_cs, zup_g, zup_n, zp2_sun, zp2_rock, zp2_tug, zp2_contract, zp2_window, zp2_code, zp2_rbody, zp2_rstock, zp2_tfree, zp2_thold, zp2_tknown, zp2_ccells, zsh2_sun, zsh2_rock, zsh2_body, zsh2_stock, zsh2_tug, zsh2_free, zsh2_hold, zsh2_known, zsh2_contract, zsh2_window, zsh2_code, zsh2_cells, zg_nsun0, zg_nsun1, zg_nsun2, zg_nrock0, zg_nrock1, zg_nrock2, zg_nrock3, zg_nrock4, zg_nrock5, zg_nrock6, zg_nrock7, zg_nrock8, zg_nrock9, zg_nrock10, zg_nrock11, zg_nrock12, zg_nrock13, zg_nrock14, zg_ntug0, zg_ntug1, zg_ntug2, zg_ntug3, zg_ntug4, zg_ntug5, zg_ntug6, zg_ntug7, zg_ntug8, zg_ntug9, zg_ntug10, zg_ntug11, zg_ntug12, zg_ntug13, zg_ntug14, zg_ntug15, zg_ntug17, zg_ntug18, zg_ntug19, zg_ntug20, zg_ntug21, zg_ntug22, zg_ncon0, zg_ncon1, zg_ncon2, zg_ncon3, zg_ncon4, zg_ncon5, zg_ncon6, zg_nwin0, zg_nwin1, zg_nwin2, zg_nwin3, zg_nwin4, zg_nwin5, zg_ncode0, zg_ncode1, zg_ncode3, zg_nrule, zg_nstock, zg_nhold, zg_nknown, zg_nord, zg_nrep, zg_ncla, zg_ntou, zg_ncel, zu_nsun0, zu_nsun1, zu_nsun2, zu_nrock0, zu_nrock1, zu_nrock2, zu_nrock3, zu_nrock4, zu_nrock5, zu_nrock6, zu_nrock7, zu_nrock8, zu_nrock9, zu_nrock10, zu_nrock11, zu_nrock12, zu_nrock13, zu_nrock14, zu_ntug0, zu_ntug1, zu_ntug2, zu_ntug3, zu_ntug4, zu_ntug5, zu_ntug6, zu_ntug7, zu_ntug8, zu_ntug9, zu_ntug10, zu_ntug11, zu_ntug12, zu_ntug13, zu_ntug14, zu_ntug15, zu_ntug17, zu_ntug18, zu_ntug19, zu_ntug20, zu_ntug21, zu_ntug22, zu_ncon0, zu_ncon1, zu_ncon2, zu_ncon3, zu_ncon4, zu_ncon5, zu_ncon6, zu_nwin0, zu_nwin1, zu_nwin2, zu_nwin3, zu_nwin4, zu_nwin5, zu_ncode3, zu_nrule, zu_nstock, zu_nhold, zu_nknown, zu_nord, zu_nrep, zu_ncla, zu_ntou, zu_ncel]
    · simp +decide (disch := omega) only [e223_0, e223_24, e223_29, e223_32, e172_0, e172_16, e172_20, e172_21, hd, hnm, g3, zpre, ite_self, Nat.reduceAdd, zs1, zs2, zs3, zI_eqb, and_self, not_true_eq_false, if_true, if_false, ite_true, ite_false, not_false_eq_true, zBP, zBZ, zisO, zisA, zlen, decide_true, decide_false, Bool.and_self, Bool.and_true, Bool.true_and, cond_true, cond_false, zBG, zBR, zBU, zBV, zinb_n, zix_n, zlA, zlB, zlM, zlN, zlX, zlI, nI_add, Nat.add_eq_zero_iff, false_and, and_false, and_true, true_and, true_or, or_true, false_or, or_false, zbool_i, zb0, zb1, zshp_0, zcs_eq, zcs_n, zcs_cs, zup_g, zup_n, zg_srock2, zg_stug2, zg_ssun, zg_ssun0, zg_srock, zg_srock0, zg_stug, zg_stug0, zg_sord, zg_sord0, zg_srep, zg_srep0, zg_scla, zg_scla0, zg_scon, zg_scon0, zg_swin, zg_swin0, zg_sleg, zg_sleg0, zg_spro, zg_sstp, zg_swrd, zu_srock2, zu_stug2, zu_ssun, zu_ssun0, zu_srock, zu_srock0, zu_stug, zu_stug0, zu_sord, zu_sord0, zu_srep, zu_srep0, zu_scla, zu_scla0, zu_scon, zu_scon0, zu_swin, zu_swin0, zu_sleg, zu_sleg0, zu_spro, zu_sstp, zu_swrd]
  obtain ⟨q1, q2, q3⟩ := zshN_i (Cb 43 u 8) (Cb 42 r 6) k8 j6
  obtain ⟨N, hN⟩ : ∃ N, N = zshN (Cb 43 u 8) (Cb 42 r 6) := ⟨_, rfl⟩
  rw [← hN] at q1 q2 q3
  have q4 := zaddsub (Cb 42 r 6) N
  refine ⟨zcs (zcs Ca 2 (zup (Ca 2) r 6 (Cb 42 r 6 + N))) 3 (zup (Ca 3) u 8 (Cb 43 u 8 - N)), zcs (zcs Cb 42 (zup (Cb 42) r 6 (Cb 42 r 6 + N))) 43 (zup (Cb 43) u 8 (Cb 43 u 8 - N)), ?_, ?_, ?_, zFa_s (zFa_s (zFa_r _) (by omega)) (by omega), zFb_s (zFb_s (zFb_r _) (by omega)) (by omega), ⟨by first | rfl | (simp (disch := omega) only [zcs_n]), by first | rfl | (simp (disch := omega) only [zcs_n]), by first | rfl | (simp (disch := omega) only [zcs_n]), by first | rfl | (simp (disch := omega) only [zcs_n])⟩, ⟨by first | rfl | (simp (disch := omega) only [zcs_eq, zcs_n, zup_n]), by first | rfl | (simp (disch := omega) only [zcs_eq, zcs_n, zup_n]), by first | rfl | (simp (disch := omega) only [zcs_eq, zcs_n, zup_n]), fun g hg => Or.inl (by first | rfl | (simp (disch := omega) only [zcs_n]))⟩⟩
  · rw [zcs_comm Ca _ _ (by decide)]
    simp +decide (disch := omega) only [e59_0, e59_5, e59_9, e59_14, e59_18, e59_23, e59_28, e59_34, e59_45, e59_48, e59_49, e59_108, e59_122, e59_132, e59_140, e59_146, e59_149, e59_157, e59_163, e59_164, e59_169, e59_170, e59_178, e59_189, e59_190, e59_198, e59_199, e59_205, e59_211, e59_212, e59_220, e59_225, e59_226, e87_0, e87_8, T85, hn0, ht0, hue, hre, hd, hk, znn_n, hsw, g3, e65_0, e65_20, T129, q1, q4, zpre, ite_self, zs1, zs2, zs3, zI_eqb, and_self, not_true_eq_false, if_true, if_false, ite_true, ite_false, not_false_eq_true, zBP, zBZ, zisO, zisA, zlen, decide_true, decide_false, Bool.and_self, Bool.and_true, Bool.true_and, cond_true, cond_false, zBG, zBR, zBU, zBV, zinb_n, zix_n, zlA, zlB, zlM, zlN, zlX, zlI, nI_add, Nat.add_eq_zero_iff, false_and, and_false, and_true, true_and, true_or, or_true, false_or, or_false, zbool_i, zb0, zb1, zshp_0, zcs_eq, zcs_n, zcs_cs, zup_g, zup_n, zp2_sun, zp2_rock, zp2_tug, zp2_contract, zp2_window, zp2_code, zp2_rbody, zp2_rstock, zp2_tfree, zp2_thold, zp2_tknown, zp2_ccells, zsh2_sun, zsh2_rock, zsh2_body, zsh2_stock, zsh2_tug, zsh2_free, zsh2_hold, zsh2_known, zsh2_contract, zsh2_window, zsh2_code, zsh2_cells, zg_nsun0, zg_nsun1, zg_nsun2, zg_nrock0, zg_nrock1, zg_nrock2, zg_nrock3, zg_nrock4, zg_nrock5, zg_nrock6, zg_nrock7, zg_nrock8, zg_nrock9, zg_nrock10, zg_nrock11, zg_nrock12, zg_nrock13, zg_nrock14, zg_ntug0, zg_ntug1, zg_ntug2, zg_ntug3, zg_ntug4, zg_ntug5, zg_ntug6, zg_ntug7, zg_ntug8, zg_ntug9, zg_ntug10, zg_ntug11, zg_ntug12, zg_ntug13, zg_ntug14, zg_ntug15, zg_ntug17, zg_ntug18, zg_ntug19, zg_ntug20, zg_ntug21, zg_ntug22, zg_ncon0, zg_ncon1, zg_ncon2, zg_ncon3, zg_ncon4, zg_ncon5, zg_ncon6, zg_nwin0, zg_nwin1, zg_nwin2, zg_nwin3, zg_nwin4, zg_nwin5, zg_ncode0, zg_ncode1, zg_ncode3, zg_nrule, zg_nstock, zg_nhold, zg_nknown, zg_nord, zg_nrep, zg_ncla, zg_ntou, zg_ncel, zu_nsun0, zu_nsun1, zu_nsun2, zu_nrock0, zu_nrock1, zu_nrock2, zu_nrock3, zu_nrock4, zu_nrock5, zu_nrock6, zu_nrock7, zu_nrock8, zu_nrock9, zu_nrock10, zu_nrock11, zu_nrock12, zu_nrock13, zu_nrock14, zu_ntug0, zu_ntug1, zu_ntug2, zu_ntug3, zu_ntug4, zu_ntug5, zu_ntug6, zu_ntug7, zu_ntug8, zu_ntug9, zu_ntug10, zu_ntug11, zu_ntug12, zu_ntug13, zu_ntug14, zu_ntug15, zu_ntug17, zu_ntug18, zu_ntug19, zu_ntug20, zu_ntug21, zu_ntug22, zu_ncon0, zu_ncon1, zu_ncon2, zu_ncon3, zu_ncon4, zu_ncon5, zu_ncon6, zu_nwin0, zu_nwin1, zu_nwin2, zu_nwin3, zu_nwin4, zu_nwin5, zu_ncode3, zu_nrule, zu_nstock, zu_nhold, zu_nknown, zu_nord, zu_nrep, zu_ncla, zu_ntou, zu_ncel]
  · rw [zcs_comm Cb _ _ (by decide), hN]
    unfold zshN
    by_cases e0 : 0 ≤ Cb 43 u 8
    · by_cases e1 : Cb 43 u 8 ≤ 0
      · simp +decide (disch := omega) only [e223_0, e223_24, e223_29, e223_32, e223_33, e223_66, e223_71, e223_79, e223_84, e223_87, e223_94, e223_100, e223_102, e172_0, e172_16, e172_20, e172_21, T160, T202, hd, hnm, g3, e0, e1, zpre, ite_self, Nat.reduceAdd, zs1, zs2, zs3, zI_eqb, and_self, not_true_eq_false, if_true, if_false, ite_true, ite_false, not_false_eq_true, zBP, zBZ, zisO, zisA, zlen, decide_true, decide_false, Bool.and_self, Bool.and_true, Bool.true_and, cond_true, cond_false, zBG, zBR, zBU, zBV, zinb_n, zix_n, zlA, zlB, zlM, zlN, zlX, zlI, nI_add, Nat.add_eq_zero_iff, false_and, and_false, and_true, true_and, true_or, or_true, false_or, or_false, zbool_i, zb0, zb1, zshp_0, zcs_eq, zcs_n, zcs_cs, zup_g, zup_n, zg_srock2, zg_stug2, zg_ssun, zg_ssun0, zg_srock, zg_srock0, zg_stug, zg_stug0, zg_sord, zg_sord0, zg_srep, zg_srep0, zg_scla, zg_scla0, zg_scon, zg_scon0, zg_swin, zg_swin0, zg_sleg, zg_sleg0, zg_spro, zg_sstp, zg_swrd, zu_srock2, zu_stug2, zu_ssun, zu_ssun0, zu_srock, zu_srock0, zu_stug, zu_stug0, zu_sord, zu_sord0, zu_srep, zu_srep0, zu_scla, zu_scla0, zu_scon, zu_scon0, zu_swin, zu_swin0, zu_sleg, zu_sleg0, zu_spro, zu_sstp, zu_swrd]
      · simp +decide (disch := omega) only [e223_0, e223_24, e223_29, e223_32, e223_33, e223_66, e223_71, e223_79, e223_84, e223_87, e223_94, e223_100, e223_102, e172_0, e172_16, e172_20, e172_21, T160, T202, hd, hnm, g3, e0, e1, zpre, ite_self, Nat.reduceAdd, zs1, zs2, zs3, zI_eqb, and_self, not_true_eq_false, if_true, if_false, ite_true, ite_false, not_false_eq_true, zBP, zBZ, zisO, zisA, zlen, decide_true, decide_false, Bool.and_self, Bool.and_true, Bool.true_and, cond_true, cond_false, zBG, zBR, zBU, zBV, zinb_n, zix_n, zlA, zlB, zlM, zlN, zlX, zlI, nI_add, Nat.add_eq_zero_iff, false_and, and_false, and_true, true_and, true_or, or_true, false_or, or_false, zbool_i, zb0, zb1, zshp_0, zcs_eq, zcs_n, zcs_cs, zup_g, zup_n, zg_srock2, zg_stug2, zg_ssun, zg_ssun0, zg_srock, zg_srock0, zg_stug, zg_stug0, zg_sord, zg_sord0, zg_srep, zg_srep0, zg_scla, zg_scla0, zg_scon, zg_scon0, zg_swin, zg_swin0, zg_sleg, zg_sleg0, zg_spro, zg_sstp, zg_swrd, zu_srock2, zu_stug2, zu_ssun, zu_ssun0, zu_srock, zu_srock0, zu_stug, zu_stug0, zu_sord, zu_sord0, zu_srep, zu_srep0, zu_scla, zu_scla0, zu_scon, zu_scon0, zu_swin, zu_swin0, zu_sleg, zu_sleg0, zu_spro, zu_sstp, zu_swrd]
    · have e1 : Cb 43 u 8 ≤ 0 := Int32.le_of_lt (Int32.not_le.mp e0)
      simp +decide (disch := omega) only [e223_0, e223_24, e223_29, e223_32, e223_33, e223_66, e223_71, e223_79, e223_84, e223_87, e223_94, e223_100, e223_102, e172_0, e172_16, e172_20, e172_21, T160, T202, hd, hnm, g3, e0, e1, zpre, ite_self, Nat.reduceAdd, zs1, zs2, zs3, zI_eqb, and_self, not_true_eq_false, if_true, if_false, ite_true, ite_false, not_false_eq_true, zBP, zBZ, zisO, zisA, zlen, decide_true, decide_false, Bool.and_self, Bool.and_true, Bool.true_and, cond_true, cond_false, zBG, zBR, zBU, zBV, zinb_n, zix_n, zlA, zlB, zlM, zlN, zlX, zlI, nI_add, Nat.add_eq_zero_iff, false_and, and_false, and_true, true_and, true_or, or_true, false_or, or_false, zbool_i, zb0, zb1, zshp_0, zcs_eq, zcs_n, zcs_cs, zup_g, zup_n, zg_srock2, zg_stug2, zg_ssun, zg_ssun0, zg_srock, zg_srock0, zg_stug, zg_stug0, zg_sord, zg_sord0, zg_srep, zg_srep0, zg_scla, zg_scla0, zg_scon, zg_scon0, zg_swin, zg_swin0, zg_sleg, zg_sleg0, zg_spro, zg_sstp, zg_swrd, zu_srock2, zu_stug2, zu_ssun, zu_ssun0, zu_srock, zu_srock0, zu_stug, zu_stug0, zu_sord, zu_sord0, zu_srep, zu_srep0, zu_scla, zu_scla0, zu_scon, zu_scon0, zu_swin, zu_swin0, zu_sleg, zu_sleg0, zu_spro, zu_sstp, zu_swrd]
  · have hA := zWu_r h r (zup (Ca 2) r 6 (Cb 42 r 6 + N)) (zup (Cb 42) r 6 (Cb 42 r 6 + N)) (fun i hi => zup_row hi) (fun i hi => zup_row hi) (by
      unfold zRR1
      simp (disch := omega) only [zup_g, zup_n]
      refine ⟨?_, j2, j3, ?_, j5, q2, j7, j8, j9⟩
      · intro f hf hf2
        by_cases ef : f = 6
        · subst ef; simp only [zup_g]
        · simp (disch := omega) only [zup_n]; exact j1 f hf hf2
      · intro f hf hf2; simp (disch := omega) only [zup_n]; exact j4 f hf hf2)
    exact zWu_t hA (zup (Ca 3) u 8 (Cb 43 u 8 - N)) (zup (Cb 43) u 8 (Cb 43 u 8 - N)) (fun i hi => by rw [zup_row hi, zcs_n _ _ (by decide)]) (fun i hi => by rw [zup_row hi, zcs_n _ _ (by decide)]) (sa' := sa) (sb' := sb) (by
      simp (disch := omega) only [zcs_n]
      unfold zRU
      simp (disch := omega) only [zup_g, zup_n]
      refine ⟨?_, k2, k3, k4, ?_, k6, k7, q3, Or.inr ⟨r, hr', hd⟩, k10, k11, ?_⟩
      · intro f hf hf1 hf2
        by_cases ef : f = 8
        · subst ef; simp only [zup_g]
        · simp (disch := omega) only [zup_n]; exact k1 f hf hf1 hf2
      · intro f hf hf2; simp (disch := omega) only [zup_n]; exact k5 f hf hf2
      · first | exact k12 | (rcases k12 with q | ⟨z1, z2, z3⟩; exact Or.inl q; exact Or.inr ⟨z1, fun j hj => by simp (disch := omega) only [zup_n]; exact z2 j hj, z3⟩))
theorem A_still (d1 d2 L p0 p2 r2 r3 s4 : Nat) (w : Nat → Nat → Nat) (u : Nat) (sa sb : Int32) (Ca Cb : zCt) (hu4 : u < 4) (hu : u < zix (Cb 40 0 6)) (hnum : Ca 392 0 4 = nI u) (h : zWu w u sa sb Ca Cb) : ∃ Ca' Cb', zR (d1 + 5) 59 0 [.ref 192, .int 7, zmk] [] (zZ L, zI Ca, zPd p0 p2 2 (45 + 4 * u) s4) = some (none, (zZ L, zI Ca', zPd p0 p2 2 (45 + 4 * u) s4)) ∧ zR (d2 + 5) 222 0 [.ref 201, .int (nI u), zmk, zmk, zmk, zmk, zmk] [] (zZ L, zI Cb, zPd p0 p2 r2 r3 s4) = some (none, (zZ L, zI Cb', zPd p0 p2 r2 r3 s4)) ∧ zWu w u sa sb Ca' Cb' ∧ zFa Ca Ca' ∧ zFb Cb Cb' ∧ (Ca' 392 = Ca 392 ∧ Ca' 393 = Ca 393 ∧ Cb' 40 0 6 = Cb 40 0 6 ∧ Cb' 40 0 0 = Cb 40 0 0) ∧ (Cb' 43 u 10 = Cb 43 u 10 ∧ Cb' 43 u 15 = Cb 43 u 15 ∧ Ca' 3 u 15 = Ca 3 u 15 ∧ ∀ g, 50 ≤ g → Cb' g = Cb g ∨ g = 410 ∨ g = 411) := by
  obtain ⟨hG, hS, hRR, ⟨hT, hU⟩, hO, hE, hC, hK, hW, hL, hP⟩ := id h
  have hGe := zRG_e hG
  obtain ⟨n, hn8, hn⟩ := hG.2.2.2.2.2.2.1
  obtain ⟨t, ht8, ht⟩ := hG.2.2.2.2.2.2.2.1
  have hn0 : Ca 0 0 5 = nI n := hGe.2.2.2.2.2.1.trans hn
  have ht0 : Ca 0 0 6 = nI t := hGe.2.2.2.2.2.2.1.trans ht
  have hue := zRU_e hU
  obtain ⟨k1, k2, k3, k4, k5, k6, k7, k8, k9, k10, k11, k12⟩ := id hU
  have hsw : zswT 66 (160) (3) (9) #[42, 66, 160, 124, 98, 146, 104] 7 = 164 := by decide
  rcases k9 with hd | ⟨r, hr, hd⟩
  · have hdm := eq_true hd
    refine ⟨Ca, Cb, ?_, ?_, h, zFa_r _, zFb_r _, ⟨by first | rfl | (simp (disch := omega) only [zcs_n]), by first | rfl | (simp (disch := omega) only [zcs_n]), by first | rfl | (simp (disch := omega) only [zcs_n]), by first | rfl | (simp (disch := omega) only [zcs_n])⟩, ⟨by first | rfl | (simp (disch := omega) only [zcs_eq, zcs_n, zup_n]), by first | rfl | (simp (disch := omega) only [zcs_eq, zcs_n, zup_n]), by first | rfl | (simp (disch := omega) only [zcs_eq, zcs_n, zup_n]), fun g hg => Or.inl (by first | rfl | (simp (disch := omega) only [zcs_n]))⟩⟩
    · simp +decide (disch := omega) only [e59_0, e59_5, e59_9, e59_14, e59_18, e59_23, e59_28, e59_34, e59_45, e59_48, e59_49, e59_108, e59_122, e59_132, e59_140, e59_146, e59_149, e59_157, e59_163, e59_164, e59_169, e59_170, e59_178, e59_189, e59_190, e59_198, e59_199, e59_205, e59_211, e59_212, e59_220, e59_225, e59_226, e87_0, e87_8, T85, hn0, hue, hd, znn_m, zpre, ite_self, zs1, zs2, zs3, zI_eqb, and_self, not_true_eq_false, if_true, if_false, ite_true, ite_false, not_false_eq_true, zBP, zBZ, zisO, zisA, zlen, decide_true, decide_false, Bool.and_self, Bool.and_true, Bool.true_and, cond_true, cond_false, zBG, zBR, zBU, zBV, zinb_n, zix_n, zlA, zlB, zlM, zlN, zlX, zlI, nI_add, Nat.add_eq_zero_iff, false_and, and_false, and_true, true_and, true_or, or_true, false_or, or_false, zbool_i, zb0, zb1, zshp_0, zcs_eq, zcs_n, zcs_cs, zup_g, zup_n, zp2_sun, zp2_rock, zp2_tug, zp2_contract, zp2_window, zp2_code, zp2_rbody, zp2_rstock, zp2_tfree, zp2_thold, zp2_tknown, zp2_ccells, zsh2_sun, zsh2_rock, zsh2_body, zsh2_stock, zsh2_tug, zsh2_free, zsh2_hold, zsh2_known, zsh2_contract, zsh2_window, zsh2_code, zsh2_cells, zg_nsun0, zg_nsun1, zg_nsun2, zg_nrock0, zg_nrock1, zg_nrock2, zg_nrock3, zg_nrock4, zg_nrock5, zg_nrock6, zg_nrock7, zg_nrock8, zg_nrock9, zg_nrock10, zg_nrock11, zg_nrock12, zg_nrock13, zg_nrock14, zg_ntug0, zg_ntug1, zg_ntug2, zg_ntug3, zg_ntug4, zg_ntug5, zg_ntug6, zg_ntug7, zg_ntug8, zg_ntug9, zg_ntug10, zg_ntug11, zg_ntug12, zg_ntug13, zg_ntug14, zg_ntug15, zg_ntug17, zg_ntug18, zg_ntug19, zg_ntug20, zg_ntug21, zg_ntug22, zg_ncon0, zg_ncon1, zg_ncon2, zg_ncon3, zg_ncon4, zg_ncon5, zg_ncon6, zg_nwin0, zg_nwin1, zg_nwin2, zg_nwin3, zg_nwin4, zg_nwin5, zg_ncode0, zg_ncode1, zg_ncode3, zg_nrule, zg_nstock, zg_nhold, zg_nknown, zg_nord, zg_nrep, zg_ncla, zg_ntou, zg_ncel, zu_nsun0, zu_nsun1, zu_nsun2, zu_nrock0, zu_nrock1, zu_nrock2, zu_nrock3, zu_nrock4, zu_nrock5, zu_nrock6, zu_nrock7, zu_nrock8, zu_nrock9, zu_nrock10, zu_nrock11, zu_nrock12, zu_nrock13, zu_nrock14, zu_ntug0, zu_ntug1, zu_ntug2, zu_ntug3, zu_ntug4, zu_ntug5, zu_ntug6, zu_ntug7, zu_ntug8, zu_ntug9, zu_ntug10, zu_ntug11, zu_ntug12, zu_ntug13, zu_ntug14, zu_ntug15, zu_ntug17, zu_ntug18, zu_ntug19, zu_ntug20, zu_ntug21, zu_ntug22, zu_ncon0, zu_ncon1, zu_ncon2, zu_ncon3, zu_ncon4, zu_ncon5, zu_ncon6, zu_nwin0, zu_nwin1, zu_nwin2, zu_nwin3, zu_nwin4, zu_nwin5, zu_ncode3, zu_nrule, zu_nstock, zu_nhold, zu_nknown, zu_nord, zu_nrep, zu_ncla, zu_ntou, zu_ncel]
    · simp +decide (disch := omega) only [e222_0, e222_36, hdm, zpre, ite_self, Nat.reduceAdd, zs1, zs2, zs3, zI_eqb, and_self, not_true_eq_false, if_true, if_false, ite_true, ite_false, not_false_eq_true, zBP, zBZ, zisO, zisA, zlen, decide_true, decide_false, Bool.and_self, Bool.and_true, Bool.true_and, cond_true, cond_false, zBG, zBR, zBU, zBV, zinb_n, zix_n, zlA, zlB, zlM, zlN, zlX, zlI, nI_add, Nat.add_eq_zero_iff, false_and, and_false, and_true, true_and, true_or, or_true, false_or, or_false, zbool_i, zb0, zb1, zshp_0, zcs_eq, zcs_n, zcs_cs, zup_g, zup_n, zg_srock2, zg_stug2, zg_ssun, zg_ssun0, zg_srock, zg_srock0, zg_stug, zg_stug0, zg_sord, zg_sord0, zg_srep, zg_srep0, zg_scla, zg_scla0, zg_scon, zg_scon0, zg_swin, zg_swin0, zg_sleg, zg_sleg0, zg_spro, zg_sstp, zg_swrd, zu_srock2, zu_stug2, zu_ssun, zu_ssun0, zu_srock, zu_srock0, zu_stug, zu_stug0, zu_sord, zu_sord0, zu_srep, zu_srep0, zu_scla, zu_scla0, zu_scon, zu_scon0, zu_swin, zu_swin0, zu_sleg, zu_sleg0, zu_spro, zu_sstp, zu_swrd]
  have hr' := hr
  rw [hn, zix_n (by omega)] at hr
  have hr8 : r < 8 := by omega
  have hk : 0 ≤ nI r ∧ ¬ nI n ≤ nI r := ⟨nI_pos' (by omega), nI_ge hr (by omega)⟩
  have hr1 := hRR r hr'
  have hre := zRR1_e hr1
  have hnm : ¬ nI r = -1 := by rw [nI_m (by omega)]; exact id
  obtain ⟨j1, j2, j3, j4, j5, j6, j7, j8, j9⟩ := id hr1
  obtain ⟨fx, hfx, e5⟩ := id k6
  by_cases hf0 : fx = 0
  · subst hf0
    have z1 : (1 : Int32) ≤ nI 0 ↔ False := by decide
    refine ⟨Ca, Cb, ?_, ?_, h, zFa_r _, zFb_r _, ⟨by first | rfl | (simp (disch := omega) only [zcs_n]), by first | rfl | (simp (disch := omega) only [zcs_n]), by first | rfl | (simp (disch := omega) only [zcs_n]), by first | rfl | (simp (disch := omega) only [zcs_n])⟩, ⟨by first | rfl | (simp (disch := omega) only [zcs_eq, zcs_n, zup_n]), by first | rfl | (simp (disch := omega) only [zcs_eq, zcs_n, zup_n]), by first | rfl | (simp (disch := omega) only [zcs_eq, zcs_n, zup_n]), fun g hg => Or.inl (by first | rfl | (simp (disch := omega) only [zcs_n]))⟩⟩
    · simp +decide (disch := omega) only [e59_0, e59_5, e59_9, e59_14, e59_18, e59_23, e59_28, e59_34, e59_45, e59_48, e59_49, e59_108, e59_122, e59_132, e59_140, e59_146, e59_149, e59_157, e59_163, e59_164, e59_169, e59_170, e59_178, e59_189, e59_190, e59_198, e59_199, e59_205, e59_211, e59_212, e59_220, e59_225, e59_226, e87_0, e87_8, T85, hn0, ht0, hue, hre, hd, hk, znn_n, hsw, e5, zn0, e63_0, e63_11, zpre, ite_self, zs1, zs2, zs3, zI_eqb, and_self, not_true_eq_false, if_true, if_false, ite_true, ite_false, not_false_eq_true, zBP, zBZ, zisO, zisA, zlen, decide_true, decide_false, Bool.and_self, Bool.and_true, Bool.true_and, cond_true, cond_false, zBG, zBR, zBU, zBV, zinb_n, zix_n, zlA, zlB, zlM, zlN, zlX, zlI, nI_add, Nat.add_eq_zero_iff, false_and, and_false, and_true, true_and, true_or, or_true, false_or, or_false, zbool_i, zb0, zb1, zshp_0, zcs_eq, zcs_n, zcs_cs, zup_g, zup_n, zp2_sun, zp2_rock, zp2_tug, zp2_contract, zp2_window, zp2_code, zp2_rbody, zp2_rstock, zp2_tfree, zp2_thold, zp2_tknown, zp2_ccells, zsh2_sun, zsh2_rock, zsh2_body, zsh2_stock, zsh2_tug, zsh2_free, zsh2_hold, zsh2_known, zsh2_contract, zsh2_window, zsh2_code, zsh2_cells, zg_nsun0, zg_nsun1, zg_nsun2, zg_nrock0, zg_nrock1, zg_nrock2, zg_nrock3, zg_nrock4, zg_nrock5, zg_nrock6, zg_nrock7, zg_nrock8, zg_nrock9, zg_nrock10, zg_nrock11, zg_nrock12, zg_nrock13, zg_nrock14, zg_ntug0, zg_ntug1, zg_ntug2, zg_ntug3, zg_ntug4, zg_ntug5, zg_ntug6, zg_ntug7, zg_ntug8, zg_ntug9, zg_ntug10, zg_ntug11, zg_ntug12, zg_ntug13, zg_ntug14, zg_ntug15, zg_ntug17, zg_ntug18, zg_ntug19, zg_ntug20, zg_ntug21, zg_ntug22, zg_ncon0, zg_ncon1, zg_ncon2, zg_ncon3, zg_ncon4, zg_ncon5, zg_ncon6, zg_nwin0, zg_nwin1, zg_nwin2, zg_nwin3, zg_nwin4, zg_nwin5, zg_ncode0, zg_ncode1, zg_ncode3, zg_nrule, zg_nstock, zg_nhold, zg_nknown, zg_nord, zg_nrep, zg_ncla, zg_ntou, zg_ncel, zu_nsun0, zu_nsun1, zu_nsun2, zu_nrock0, zu_nrock1, zu_nrock2, zu_nrock3, zu_nrock4, zu_nrock5, zu_nrock6, zu_nrock7, zu_nrock8, zu_nrock9, zu_nrock10, zu_nrock11, zu_nrock12, zu_nrock13, zu_nrock14, zu_ntug0, zu_ntug1, zu_ntug2, zu_ntug3, zu_ntug4, zu_ntug5, zu_ntug6, zu_ntug7, zu_ntug8, zu_ntug9, zu_ntug10, zu_ntug11, zu_ntug12, zu_ntug13, zu_ntug14, zu_ntug15, zu_ntug17, zu_ntug18, zu_ntug19, zu_ntug20, zu_ntug21, zu_ntug22, zu_ncon0, zu_ncon1, zu_ncon2, zu_ncon3, zu_ncon4, zu_ncon5, zu_ncon6, zu_nwin0, zu_nwin1, zu_nwin2, zu_nwin3, zu_nwin4, zu_nwin5, zu_ncode3, zu_nrule, zu_nstock, zu_nhold, zu_nknown, zu_nord, zu_nrep, zu_ncla, zu_ntou, zu_ncel]
    · simp +decide (disch := omega) only [e222_0, e222_24, e222_36, hd, hnm, e5, zn0, zpre, ite_self, Nat.reduceAdd, zs1, zs2, zs3, zI_eqb, and_self, not_true_eq_false, if_true, if_false, ite_true, ite_false, not_false_eq_true, zBP, zBZ, zisO, zisA, zlen, decide_true, decide_false, Bool.and_self, Bool.and_true, Bool.true_and, cond_true, cond_false, zBG, zBR, zBU, zBV, zinb_n, zix_n, zlA, zlB, zlM, zlN, zlX, zlI, nI_add, Nat.add_eq_zero_iff, false_and, and_false, and_true, true_and, true_or, or_true, false_or, or_false, zbool_i, zb0, zb1, zshp_0, zcs_eq, zcs_n, zcs_cs, zup_g, zup_n, zg_srock2, zg_stug2, zg_ssun, zg_ssun0, zg_srock, zg_srock0, zg_stug, zg_stug0, zg_sord, zg_sord0, zg_srep, zg_srep0, zg_scla, zg_scla0, zg_scon, zg_scon0, zg_swin, zg_swin0, zg_sleg, zg_sleg0, zg_spro, zg_sstp, zg_swrd, zu_srock2, zu_stug2, zu_ssun, zu_ssun0, zu_srock, zu_srock0, zu_stug, zu_stug0, zu_sord, zu_sord0, zu_srep, zu_srep0, zu_scla, zu_scla0, zu_scon, zu_scon0, zu_swin, zu_swin0, zu_sleg, zu_sleg0, zu_spro, zu_sstp, zu_swrd]
  have hf1 : (1 : Int32) ≤ nI fx := nI_le (a := 1) (by omega) (by omega)
  have hf1' : ¬ nI fx < 1 := Int32.not_lt.mpr hf1
  obtain ⟨q1, q2, q3⟩ := zstN_i (Cb 43 u 8) (Cb 42 r 6) k8 j6
  obtain ⟨N, hN⟩ : ∃ N, N = zstN (Cb 43 u 8) (Cb 42 r 6) := ⟨_, rfl⟩
  rw [← hN] at q1 q2 q3
  have q4 := zaddsub (Cb 43 u 8) N
  have q5 : nI fx - 1 = nI (fx - 1) := by obtain ⟨g, rfl⟩ : ∃ g, fx = g + 1 := ⟨fx - 1, by omega⟩; exact nI_pred g
  have hmod : ∀ Q, zR (d2 + 5) 222 117 [.ref 201, .int (nI u), .int (nI (160 + 28 * u)), .int (nI r), .int (Cb 42 r 6), .int (if Cb 42 r 6 ≤ 0 then 50 + Cb 43 u 8 else 50 - Cb 43 u 8), .int (if (if Cb 42 r 6 ≤ 0 then 50 + Cb 43 u 8 else 50 - Cb 43 u 8) ≤ (if 5 ≤ zab (Cb 42 r 6) then 5 else zab (Cb 42 r 6)) then (if Cb 42 r 6 ≤ 0 then 50 + Cb 43 u 8 else 50 - Cb 43 u 8) else (if 5 ≤ zab (Cb 42 r 6) then 5 else zab (Cb 42 r 6)))] [.int N] (zZ L, zI Cb, zPd p0 p2 r2 r3 s4) = Q → zR (d2 + 5) 222 0 [.ref 201, .int (nI u), zmk, zmk, zmk, zmk, zmk] [] (zZ L, zI Cb, zPd p0 p2 r2 r3 s4) = Q := by
    intro Q hQ
    rw [← hQ, hN]
    unfold zstN
    by_cases e0 : 0 ≤ Cb 42 r 6
    · by_cases e1 : Cb 42 r 6 ≤ 0
      · simp +decide (disch := omega) only [e222_0, e222_24, e222_36, e222_37, e222_59, e222_74, e222_86, e222_93, e222_97, e222_102, e222_109, e222_115, T160, T202, hd, hnm, e5, hf1, hf1', e0, e1, zpre, ite_self, Nat.reduceAdd, zs1, zs2, zs3, zI_eqb, and_self, not_true_eq_false, if_true, if_false, ite_true, ite_false, not_false_eq_true, zBP, zBZ, zisO, zisA, zlen, decide_true, decide_false, Bool.and_self, Bool.and_true, Bool.true_and, cond_true, cond_false, zBG, zBR, zBU, zBV, zinb_n, zix_n, zlA, zlB, zlM, zlN, zlX, zlI, nI_add, Nat.add_eq_zero_iff, false_and, and_false, and_true, true_and, true_or, or_true, false_or, or_false, zbool_i, zb0, zb1, zshp_0, zcs_eq, zcs_n, zcs_cs, zup_g, zup_n, zg_srock2, zg_stug2, zg_ssun, zg_ssun0, zg_srock, zg_srock0, zg_stug, zg_stug0, zg_sord, zg_sord0, zg_srep, zg_srep0, zg_scla, zg_scla0, zg_scon, zg_scon0, zg_swin, zg_swin0, zg_sleg, zg_sleg0, zg_spro, zg_sstp, zg_swrd, zu_srock2, zu_stug2, zu_ssun, zu_ssun0, zu_srock, zu_srock0, zu_stug, zu_stug0, zu_sord, zu_sord0, zu_srep, zu_srep0, zu_scla, zu_scla0, zu_scon, zu_scon0, zu_swin, zu_swin0, zu_sleg, zu_sleg0, zu_spro, zu_sstp, zu_swrd]
      · simp +decide (disch := omega) only [e222_0, e222_24, e222_36, e222_37, e222_59, e222_74, e222_86, e222_93, e222_97, e222_102, e222_109, e222_115, T160, T202, hd, hnm, e5, hf1, hf1', e0, e1, zpre, ite_self, Nat.reduceAdd, zs1, zs2, zs3, zI_eqb, and_self, not_true_eq_false, if_true, if_false, ite_true, ite_false, not_false_eq_true, zBP, zBZ, zisO, zisA, zlen, decide_true, decide_false, Bool.and_self, Bool.and_true, Bool.true_and, cond_true, cond_false, zBG, zBR, zBU, zBV, zinb_n, zix_n, zlA, zlB, zlM, zlN, zlX, zlI, nI_add, Nat.add_eq_zero_iff, false_and, and_false, and_true, true_and, true_or, or_true, false_or, or_false, zbool_i, zb0, zb1, zshp_0, zcs_eq, zcs_n, zcs_cs, zup_g, zup_n, zg_srock2, zg_stug2, zg_ssun, zg_ssun0, zg_srock, zg_srock0, zg_stug, zg_stug0, zg_sord, zg_sord0, zg_srep, zg_srep0, zg_scla, zg_scla0, zg_scon, zg_scon0, zg_swin, zg_swin0, zg_sleg, zg_sleg0, zg_spro, zg_sstp, zg_swrd, zu_srock2, zu_stug2, zu_ssun, zu_ssun0, zu_srock, zu_srock0, zu_stug, zu_stug0, zu_sord, zu_sord0, zu_srep, zu_srep0, zu_scla, zu_scla0, zu_scon, zu_scon0, zu_swin, zu_swin0, zu_sleg, zu_sleg0, zu_spro, zu_sstp, zu_swrd]
    · have e1 : Cb 42 r 6 ≤ 0 := Int32.le_of_lt (Int32.not_le.mp e0)
      simp +decide (disch := omega) only [e222_0, e222_24, e222_36, e222_37, e222_59, e222_74, e222_86, e222_93, e222_97, e222_102, e222_109, e222_115, T160, T202, hd, hnm, e5, hf1, hf1', e0, e1, zpre, ite_self, Nat.reduceAdd, zs1, zs2, zs3, zI_eqb, and_self, not_true_eq_false, if_true, if_false, ite_true, ite_false, not_false_eq_true, zBP, zBZ, zisO, zisA, zlen, decide_true, decide_false, Bool.and_self, Bool.and_true, Bool.true_and, cond_true, cond_false, zBG, zBR, zBU, zBV, zinb_n, zix_n, zlA, zlB, zlM, zlN, zlX, zlI, nI_add, Nat.add_eq_zero_iff, false_and, and_false, and_true, true_and, true_or, or_true, false_or, or_false, zbool_i, zb0, zb1, zshp_0, zcs_eq, zcs_n, zcs_cs, zup_g, zup_n, zg_srock2, zg_stug2, zg_ssun, zg_ssun0, zg_srock, zg_srock0, zg_stug, zg_stug0, zg_sord, zg_sord0, zg_srep, zg_srep0, zg_scla, zg_scla0, zg_scon, zg_scon0, zg_swin, zg_swin0, zg_sleg, zg_sleg0, zg_spro, zg_sstp, zg_swrd, zu_srock2, zu_stug2, zu_ssun, zu_ssun0, zu_srock, zu_srock0, zu_stug, zu_stug0, zu_sord, zu_sord0, zu_srep, zu_srep0, zu_scla, zu_scla0, zu_scon, zu_scon0, zu_swin, zu_swin0, zu_sleg, zu_sleg0, zu_spro, zu_sstp, zu_swrd]
  by_cases hN0 : N = 0
  · have hN0e := eq_true hN0
    refine ⟨Ca, Cb, ?_, hmod _ ?_, h, zFa_r _, zFb_r _, ⟨by first | rfl | (simp (disch := omega) only [zcs_n]), by first | rfl | (simp (disch := omega) only [zcs_n]), by first | rfl | (simp (disch := omega) only [zcs_n]), by first | rfl | (simp (disch := omega) only [zcs_n])⟩, ⟨by first | rfl | (simp (disch := omega) only [zcs_eq, zcs_n, zup_n]), by first | rfl | (simp (disch := omega) only [zcs_eq, zcs_n, zup_n]), by first | rfl | (simp (disch := omega) only [zcs_eq, zcs_n, zup_n]), fun g hg => Or.inl (by first | rfl | (simp (disch := omega) only [zcs_n]))⟩⟩
    · simp +decide (disch := omega) only [e59_0, e59_5, e59_9, e59_14, e59_18, e59_23, e59_28, e59_34, e59_45, e59_48, e59_49, e59_108, e59_122, e59_132, e59_140, e59_146, e59_149, e59_157, e59_163, e59_164, e59_169, e59_170, e59_178, e59_189, e59_190, e59_198, e59_199, e59_205, e59_211, e59_212, e59_220, e59_225, e59_226, e87_0, e87_8, T85, hn0, ht0, hue, hre, hd, hk, znn_n, hsw, e5, hf1, hf1', e63_0, e63_11, e63_12, e63_30, e63_39, e63_54, e63_55, e63_81, T129, q1, q4, hN0e, zpre, ite_self, zs1, zs2, zs3, zI_eqb, and_self, not_true_eq_false, if_true, if_false, ite_true, ite_false, not_false_eq_true, zBP, zBZ, zisO, zisA, zlen, decide_true, decide_false, Bool.and_self, Bool.and_true, Bool.true_and, cond_true, cond_false, zBG, zBR, zBU, zBV, zinb_n, zix_n, zlA, zlB, zlM, zlN, zlX, zlI, nI_add, Nat.add_eq_zero_iff, false_and, and_false, and_true, true_and, true_or, or_true, false_or, or_false, zbool_i, zb0, zb1, zshp_0, zcs_eq, zcs_n, zcs_cs, zup_g, zup_n, zp2_sun, zp2_rock, zp2_tug, zp2_contract, zp2_window, zp2_code, zp2_rbody, zp2_rstock, zp2_tfree, zp2_thold, zp2_tknown, zp2_ccells, zsh2_sun, zsh2_rock, zsh2_body, zsh2_stock, zsh2_tug, zsh2_free, zsh2_hold, zsh2_known, zsh2_contract, zsh2_window, zsh2_code, zsh2_cells, zg_nsun0, zg_nsun1, zg_nsun2, zg_nrock0, zg_nrock1, zg_nrock2, zg_nrock3, zg_nrock4, zg_nrock5, zg_nrock6, zg_nrock7, zg_nrock8, zg_nrock9, zg_nrock10, zg_nrock11, zg_nrock12, zg_nrock13, zg_nrock14, zg_ntug0, zg_ntug1, zg_ntug2, zg_ntug3, zg_ntug4, zg_ntug5, zg_ntug6, zg_ntug7, zg_ntug8, zg_ntug9, zg_ntug10, zg_ntug11, zg_ntug12, zg_ntug13, zg_ntug14, zg_ntug15, zg_ntug17, zg_ntug18, zg_ntug19, zg_ntug20, zg_ntug21, zg_ntug22, zg_ncon0, zg_ncon1, zg_ncon2, zg_ncon3, zg_ncon4, zg_ncon5, zg_ncon6, zg_nwin0, zg_nwin1, zg_nwin2, zg_nwin3, zg_nwin4, zg_nwin5, zg_ncode0, zg_ncode1, zg_ncode3, zg_nrule, zg_nstock, zg_nhold, zg_nknown, zg_nord, zg_nrep, zg_ncla, zg_ntou, zg_ncel, zu_nsun0, zu_nsun1, zu_nsun2, zu_nrock0, zu_nrock1, zu_nrock2, zu_nrock3, zu_nrock4, zu_nrock5, zu_nrock6, zu_nrock7, zu_nrock8, zu_nrock9, zu_nrock10, zu_nrock11, zu_nrock12, zu_nrock13, zu_nrock14, zu_ntug0, zu_ntug1, zu_ntug2, zu_ntug3, zu_ntug4, zu_ntug5, zu_ntug6, zu_ntug7, zu_ntug8, zu_ntug9, zu_ntug10, zu_ntug11, zu_ntug12, zu_ntug13, zu_ntug14, zu_ntug15, zu_ntug17, zu_ntug18, zu_ntug19, zu_ntug20, zu_ntug21, zu_ntug22, zu_ncon0, zu_ncon1, zu_ncon2, zu_ncon3, zu_ncon4, zu_ncon5, zu_ncon6, zu_nwin0, zu_nwin1, zu_nwin2, zu_nwin3, zu_nwin4, zu_nwin5, zu_ncode3, zu_nrule, zu_nstock, zu_nhold, zu_nknown, zu_nord, zu_nrep, zu_ncla, zu_ntou, zu_ncel]
    · simp +decide (disch := omega) only [e222_117, e222_124, hN0e, zpre, ite_self, Nat.reduceAdd, zs1, zs2, zs3, zI_eqb, and_self, not_true_eq_false, if_true, if_false, ite_true, ite_false, not_false_eq_true, zBP, zBZ, zisO, zisA, zlen, decide_true, decide_false, Bool.and_self, Bool.and_true, Bool.true_and, cond_true, cond_false, zBG, zBR, zBU, zBV, zinb_n, zix_n, zlA, zlB, zlM, zlN, zlX, zlI, nI_add, Nat.add_eq_zero_iff, false_and, and_false, and_true, true_and, true_or, or_true, false_or, or_false, zbool_i, zb0, zb1, zshp_0, zcs_eq, zcs_n, zcs_cs, zup_g, zup_n, zg_srock2, zg_stug2, zg_ssun, zg_ssun0, zg_srock, zg_srock0, zg_stug, zg_stug0, zg_sord, zg_sord0, zg_srep, zg_srep0, zg_scla, zg_scla0, zg_scon, zg_scon0, zg_swin, zg_swin0, zg_sleg, zg_sleg0, zg_spro, zg_sstp, zg_swrd, zu_srock2, zu_stug2, zu_ssun, zu_ssun0, zu_srock, zu_srock0, zu_stug, zu_stug0, zu_sord, zu_sord0, zu_srep, zu_srep0, zu_scla, zu_scla0, zu_scon, zu_scon0, zu_swin, zu_swin0, zu_sleg, zu_sleg0, zu_spro, zu_sstp, zu_swrd]
  refine ⟨zcs (zcs Ca 2 (zup (Ca 2) r 6 (Cb 42 r 6 - N))) 3 (zup (zup (zup (Ca 3) u 8 (Cb 43 u 8 + N)) u 5 (nI (fx - 1))) u 12 (Cb 43 u 12 + 1)), zcs (zcs Cb 42 (zup (Cb 42) r 6 (Cb 42 r 6 - N))) 43 (zup (zup (zup (Cb 43) u 8 (Cb 43 u 8 + N)) u 5 (nI (fx - 1))) u 12 (Cb 43 u 12 + 1)), ?_, hmod _ ?_, ?_, zFa_s (zFa_s (zFa_r _) (by omega)) (by omega), zFb_s (zFb_s (zFb_r _) (by omega)) (by omega), ⟨by first | rfl | (simp (disch := omega) only [zcs_n]), by first | rfl | (simp (disch := omega) only [zcs_n]), by first | rfl | (simp (disch := omega) only [zcs_n]), by first | rfl | (simp (disch := omega) only [zcs_n])⟩, ⟨by first | rfl | (simp (disch := omega) only [zcs_eq, zcs_n, zup_n]), by first | rfl | (simp (disch := omega) only [zcs_eq, zcs_n, zup_n]), by first | rfl | (simp (disch := omega) only [zcs_eq, zcs_n, zup_n]), fun g hg => Or.inl (by first | rfl | (simp (disch := omega) only [zcs_n]))⟩⟩
  · simp +decide (disch := omega) only [e59_0, e59_5, e59_9, e59_14, e59_18, e59_23, e59_28, e59_34, e59_45, e59_48, e59_49, e59_108, e59_122, e59_132, e59_140, e59_146, e59_149, e59_157, e59_163, e59_164, e59_169, e59_170, e59_178, e59_189, e59_190, e59_198, e59_199, e59_205, e59_211, e59_212, e59_220, e59_225, e59_226, e87_0, e87_8, T85, hn0, ht0, hue, hre, hd, hk, znn_n, hsw, e5, hf1, hf1', e63_0, e63_11, e63_12, e63_30, e63_39, e63_54, e63_55, e63_81, e78_0, T129, q1, q4, q5, hN0, zpre, ite_self, zs1, zs2, zs3, zI_eqb, and_self, not_true_eq_false, if_true, if_false, ite_true, ite_false, not_false_eq_true, zBP, zBZ, zisO, zisA, zlen, decide_true, decide_false, Bool.and_self, Bool.and_true, Bool.true_and, cond_true, cond_false, zBG, zBR, zBU, zBV, zinb_n, zix_n, zlA, zlB, zlM, zlN, zlX, zlI, nI_add, Nat.add_eq_zero_iff, false_and, and_false, and_true, true_and, true_or, or_true, false_or, or_false, zbool_i, zb0, zb1, zshp_0, zcs_eq, zcs_n, zcs_cs, zup_g, zup_n, zp2_sun, zp2_rock, zp2_tug, zp2_contract, zp2_window, zp2_code, zp2_rbody, zp2_rstock, zp2_tfree, zp2_thold, zp2_tknown, zp2_ccells, zsh2_sun, zsh2_rock, zsh2_body, zsh2_stock, zsh2_tug, zsh2_free, zsh2_hold, zsh2_known, zsh2_contract, zsh2_window, zsh2_code, zsh2_cells, zg_nsun0, zg_nsun1, zg_nsun2, zg_nrock0, zg_nrock1, zg_nrock2, zg_nrock3, zg_nrock4, zg_nrock5, zg_nrock6, zg_nrock7, zg_nrock8, zg_nrock9, zg_nrock10, zg_nrock11, zg_nrock12, zg_nrock13, zg_nrock14, zg_ntug0, zg_ntug1, zg_ntug2, zg_ntug3, zg_ntug4, zg_ntug5, zg_ntug6, zg_ntug7, zg_ntug8, zg_ntug9, zg_ntug10, zg_ntug11, zg_ntug12, zg_ntug13, zg_ntug14, zg_ntug15, zg_ntug17, zg_ntug18, zg_ntug19, zg_ntug20, zg_ntug21, zg_ntug22, zg_ncon0, zg_ncon1, zg_ncon2, zg_ncon3, zg_ncon4, zg_ncon5, zg_ncon6, zg_nwin0, zg_nwin1, zg_nwin2, zg_nwin3, zg_nwin4, zg_nwin5, zg_ncode0, zg_ncode1, zg_ncode3, zg_nrule, zg_nstock, zg_nhold, zg_nknown, zg_nord, zg_nrep, zg_ncla, zg_ntou, zg_ncel, zu_nsun0, zu_nsun1, zu_nsun2, zu_nrock0, zu_nrock1, zu_nrock2, zu_nrock3, zu_nrock4, zu_nrock5, zu_nrock6, zu_nrock7, zu_nrock8, zu_nrock9, zu_nrock10, zu_nrock11, zu_nrock12, zu_nrock13, zu_nrock14, zu_ntug0, zu_ntug1, zu_ntug2, zu_ntug3, zu_ntug4, zu_ntug5, zu_ntug6, zu_ntug7, zu_ntug8, zu_ntug9, zu_ntug10, zu_ntug11, zu_ntug12, zu_ntug13, zu_ntug14, zu_ntug15, zu_ntug17, zu_ntug18, zu_ntug19, zu_ntug20, zu_ntug21, zu_ntug22, zu_ncon0, zu_ncon1, zu_ncon2, zu_ncon3, zu_ncon4, zu_ncon5, zu_ncon6, zu_nwin0, zu_nwin1, zu_nwin2, zu_nwin3, zu_nwin4, zu_nwin5, zu_ncode3, zu_nrule, zu_nstock, zu_nhold, zu_nknown, zu_nord, zu_nrep, zu_ncla, zu_ntou, zu_ncel]
  · simp +decide (disch := omega) only [e222_117, e222_125, hN0, e5, q5, zpre, ite_self, Nat.reduceAdd, zs1, zs2, zs3, zI_eqb, and_self, not_true_eq_false, if_true, if_false, ite_true, ite_false, not_false_eq_true, zBP, zBZ, zisO, zisA, zlen, decide_true, decide_false, Bool.and_self, Bool.and_true, Bool.true_and, cond_true, cond_false, zBG, zBR, zBU, zBV, zinb_n, zix_n, zlA, zlB, zlM, zlN, zlX, zlI, nI_add, Nat.add_eq_zero_iff, false_and, and_false, and_true, true_and, true_or, or_true, false_or, or_false, zbool_i, zb0, zb1, zshp_0, zcs_eq, zcs_n, zcs_cs, zup_g, zup_n, zg_srock2, zg_stug2, zg_ssun, zg_ssun0, zg_srock, zg_srock0, zg_stug, zg_stug0, zg_sord, zg_sord0, zg_srep, zg_srep0, zg_scla, zg_scla0, zg_scon, zg_scon0, zg_swin, zg_swin0, zg_sleg, zg_sleg0, zg_spro, zg_sstp, zg_swrd, zu_srock2, zu_stug2, zu_ssun, zu_ssun0, zu_srock, zu_srock0, zu_stug, zu_stug0, zu_sord, zu_sord0, zu_srep, zu_srep0, zu_scla, zu_scla0, zu_scon, zu_scon0, zu_swin, zu_swin0, zu_sleg, zu_sleg0, zu_spro, zu_sstp, zu_swrd]
  · have hA := zWu_r h r (zup (Ca 2) r 6 (Cb 42 r 6 - N)) (zup (Cb 42) r 6 (Cb 42 r 6 - N)) (fun i hi => zup_row hi) (fun i hi => zup_row hi) (by
      unfold zRR1
      simp (disch := omega) only [zup_g, zup_n]
      refine ⟨?_, j2, j3, ?_, j5, q3, j7, j8, j9⟩
      · intro f hf hf2
        by_cases ef : f = 6
        · subst ef; simp only [zup_g]
        · simp (disch := omega) only [zup_n]; exact j1 f hf hf2
      · intro f hf hf2; simp (disch := omega) only [zup_n]; exact j4 f hf hf2)
    exact zWu_t hA (zup (zup (zup (Ca 3) u 8 (Cb 43 u 8 + N)) u 5 (nI (fx - 1))) u 12 (Cb 43 u 12 + 1)) (zup (zup (zup (Cb 43) u 8 (Cb 43 u 8 + N)) u 5 (nI (fx - 1))) u 12 (Cb 43 u 12 + 1)) (fun i hi => by simp (disch := exact hi) only [zup_row]; rw [zcs_n _ _ (by decide)]) (fun i hi => by simp (disch := exact hi) only [zup_row]; rw [zcs_n _ _ (by decide)]) (sa' := sa) (sb' := sb) (by
      simp (disch := omega) only [zcs_n]
      unfold zRU
      simp (disch := omega) only [zup_g, zup_n]
      refine ⟨?_, k2, k3, k4, ?_, ⟨fx - 1, by omega, rfl⟩, k7, q2, Or.inr ⟨r, hr', hd⟩, k10, k11, ?_⟩
      · intro f hf hf1 hf2
        by_cases ef : f = 8 ∨ f = 5 ∨ f = 12
        · rcases ef with rfl | rfl | rfl <;> simp (disch := omega) only [zup_g, zup_n]
        · simp (disch := omega) only [zup_n]; exact k1 f hf hf1 hf2
      · intro f hf hf2; simp (disch := omega) only [zup_n]; exact k5 f hf hf2
      · first | exact k12 | (rcases k12 with q | ⟨z1, z2, z3⟩; exact Or.inl q; exact Or.inr ⟨z1, fun j hj => by simp (disch := omega) only [zup_n]; exact z2 j hj, z3⟩))
