/-! THE RUN: what a tug does (1), printed by wip/gen/pub35.py -/
/-- the row of a tug, its place in the program given apart -/
def zRU (nr : Int32) (nb : Nat → Int32) (w : Nat → Nat → Nat) (sa sb : Int32) (a b : Nat → Int32) : Prop := (∀ f, f < 15 → f ≠ 9 → f ≠ 10 → a f = b f) ∧ a 9 = znn (b 9) ∧ a 10 = znn (b 10) ∧ zcn 3 (b 0) ∧ (∀ f, 1 ≤ f → f ≤ 4 → zB (b f)) ∧ zcn 999 (b 5) ∧ (∃ x y, b 6 = nI x ∧ b 7 = nI y ∧ x + y ≤ if b 0 = 1 then 100 else 20) ∧ (-50 ≤ b 8 ∧ b 8 ≤ 50) ∧ (b 9 = -1 ∨ ∃ r, r < zix nr ∧ b 9 = nI r) ∧ (b 14 = 0 ∨ b 14 = 1) ∧ (b 10 = -1 ∨ ∃ p k, p < 4 ∧ b 10 = nI p ∧ sb = nI k ∧ k ≤ zix (nb p) ∧ sa = nI (k + w p k)) ∧ ((b 16 = 0 ∧ a 22 = -1) ∨ (b 16 = 1 ∧ (∀ k, k < 6 → a (17 + k) = b (17 + k)) ∧ zcn 3000 (b 22)))
theorem zRU_e {nr : Int32} {nb : Nat → Int32} {w : Nat → Nat → Nat} {sa sb : Int32} {a b : Nat → Int32} (h : zRU nr nb w sa sb a b) : a 0 = b 0 ∧ a 1 = b 1 ∧ a 2 = b 2 ∧ a 3 = b 3 ∧ a 4 = b 4 ∧ a 5 = b 5 ∧ a 6 = b 6 ∧ a 7 = b 7 ∧ a 8 = b 8 ∧ a 11 = b 11 ∧ a 12 = b 12 ∧ a 13 = b 13 ∧ a 14 = b 14 ∧ a 9 = znn (b 9) ∧ a 10 = znn (b 10) := ⟨h.1 0 (by decide) (by decide) (by decide), h.1 1 (by decide) (by decide) (by decide), h.1 2 (by decide) (by decide) (by decide), h.1 3 (by decide) (by decide) (by decide), h.1 4 (by decide) (by decide) (by decide), h.1 5 (by decide) (by decide) (by decide), h.1 6 (by decide) (by decide) (by decide), h.1 7 (by decide) (by decide) (by decide), h.1 8 (by decide) (by decide) (by decide), h.1 11 (by decide) (by decide) (by decide), h.1 12 (by decide) (by decide) (by decide), h.1 13 (by decide) (by decide) (by decide), h.1 14 (by decide) (by decide) (by decide), h.2.1, h.2.2.1⟩
def zWu (w : Nat → Nat → Nat) (u : Nat) (sa sb : Int32) (Ca Cb : zCt) : Prop := zRG (Ca 0) (Cb 40) ∧ zRS (Cb 40 0 4) (Ca 1) (Cb 41) ∧ zRR (Cb 40 0 5) (Ca 2) (Cb 42) ∧ ((∀ i, i < zix (Cb 40 0 6) → i ≠ u → zRT1 (Cb 40 0 5) (fun p => Cb 40 0 (14 + p)) w (Ca 3 i) (Cb 43 i)) ∧ zRU (Cb 40 0 5) (fun p => Cb 40 0 (14 + p)) w sa sb (Ca 3 u) (Cb 43 u)) ∧ zRO (Cb 40 0 7) (Cb 40 0 6) (Ca 4) (Cb 44) ∧ zRE (Cb 40 0 8) (Cb 40 0 6) (Ca 5) (Cb 45) ∧ zRC (Cb 40 0 9) (Cb 40 0 6) (Cb 40 0 5) (Ca 6) (Cb 46) ∧ zRK (Cb 40 0 10) (Cb 40 0 0) (Cb 40 0 5) (Ca 7) (Cb 47) ∧ zRW (Cb 40 0 11) (Cb 40 0 5) (Ca 8) (Cb 48) ∧ zRL (Cb 40 0 13) (Ca 9) (Cb 49) ∧ ∀ p, p < 4 → zLay (Ca 0 0 (14 + p)) (Cb 40 0 (14 + p)) (Ca (10 + p % 4)) (Cb (50 + p % 4)) (Cb (54 + p % 4)) (w p)
theorem zWu_of {Ca Cb : zCt} (h : zWW Ca Cb) (u : Nat) (hu : u < zix (Cb 40 0 6)) : ∃ w, zWu w u (Ca 3 u 15) (Cb 43 u 15) Ca Cb := by
  obtain ⟨w, hG, hS, hRR, hT, hO, hE, hC, hK, hW, hL, hP⟩ := h
  exact ⟨w, hG, hS, hRR, ⟨fun i hi _ => hT i hi, hT u hu⟩, hO, hE, hC, hK, hW, hL, hP⟩
theorem zWu_to {w : Nat → Nat → Nat} {u : Nat} {sa sb : Int32} {Ca Cb : zCt} (h : zWu w u sa sb Ca Cb) (ha : Ca 3 u 15 = sa) (hb : Cb 43 u 15 = sb) : zWW Ca Cb := by
  obtain ⟨hG, hS, hRR, ⟨hT, hU⟩, hO, hE, hC, hK, hW, hL, hP⟩ := h
  refine ⟨w, hG, hS, hRR, fun i hi => ?_, hO, hE, hC, hK, hW, hL, hP⟩
  by_cases e : i = u
  · subst e
    subst ha hb
    exact hU
  · exact hT i hi e
theorem zWu_t {w : Nat → Nat → Nat} {u : Nat} {sa sb sa' sb' : Int32} {Ca Cb : zCt} (h : zWu w u sa sb Ca Cb) (A B : zGp) (hA : ∀ i, i ≠ u → A i = Ca 3 i) (hB : ∀ i, i ≠ u → B i = Cb 43 i) (hu : zRU (Cb 40 0 5) (fun p => Cb 40 0 (14 + p)) w sa' sb' (A u) (B u)) : zWu w u sa' sb' (zcs Ca 3 A) (zcs Cb 43 B) := by
  unfold zWu at h ⊢
  simp (disch := omega) only [zcs_eq, zcs_n]
  obtain ⟨hG, hS, hRR, ⟨hT, hU⟩, hO, hE, hC, hK, hW, hL, hP⟩ := h
  exact ⟨hG, hS, hRR, ⟨fun i hi e => by rw [hA i e, hB i e]; exact hT i hi e, hu⟩, hO, hE, hC, hK, hW, hL, hP⟩
theorem zWu_r {w : Nat → Nat → Nat} {u : Nat} {sa sb : Int32} {Ca Cb : zCt} (h : zWu w u sa sb Ca Cb) (r : Nat) (A B : zGp) (hA : ∀ i, i ≠ r → A i = Ca 2 i) (hB : ∀ i, i ≠ r → B i = Cb 42 i) (hr : zRR1 (A r) (B r)) : zWu w u sa sb (zcs Ca 2 A) (zcs Cb 42 B) := by
  unfold zWu at h ⊢
  simp (disch := omega) only [zcs_eq, zcs_n]
  obtain ⟨hG, hS, hRR, hT, hO, hE, hC, hK, hW, hL, hP⟩ := h
  exact ⟨hG, hS, zRR_set hRR r hA hB hr, hT, hO, hE, hC, hK, hW, hL, hP⟩
theorem T160 (d : Nat) (Z : List (Nat × Nat)) (I : Nat → Nat → Int32) (P : Nat → Nat → Nat) (a b : Int32) : zR d 160 0 [.int a, .int b] [] (Z, I, P) = some (some (.int (if b ≤ a then b else a)), (Z, I, P)) := by
  rw [e160_0]
  by_cases h : b ≤ a
  · rw [if_pos h, e160_9, e160_10, if_pos h]
  · rw [if_neg h, e160_5, e160_10, if_neg h]
theorem zmn1 {a b : Nat} (ha : a < 2147483648) (hb : b < 2147483648) : (if nI a < nI b then nI a else nI b) = nI (min a b) := by
  by_cases h : a < b
  · rw [if_pos (nI_lt h hb), Nat.min_eq_left (by omega)]
  · rw [if_neg (nI_nlt (by omega) ha), Nat.min_eq_right (by omega)]
theorem zmn2 {a b : Nat} (ha : a < 2147483648) (hb : b < 2147483648) : (if nI b ≤ nI a then nI b else nI a) = nI (min a b) := by
  by_cases h : b ≤ a
  · rw [if_pos (nI_le h ha), Nat.min_eq_right h]
  · rw [if_neg (nI_ge (by omega) hb), Nat.min_eq_left (by omega)]
theorem zm999 {f : Nat} (h : f ≤ 999) : (999 : Int32) - nI f = nI (999 - f) := nI_sub (a := 999) h

theorem A_make (d1 d2 L p0 p2 r2 r3 s4 : Nat) (w : Nat → Nat → Nat) (u : Nat) (sa sb : Int32) (Ca Cb : zCt) (hu4 : u < 4) (h : zWu w u sa sb Ca Cb) : ∃ Ca' Cb', zR d1 61 0 [.ref 192, zmk] [] (zZ L, zI Ca, zPd p0 p2 2 (45 + 4 * u) s4) = some (none, (zZ L, zI Ca', zPd p0 p2 2 (45 + 4 * u) s4)) ∧ zR (d2 + 1) 219 0 [.ref 201, .int (nI u), zmk, zmk] [] (zZ L, zI Cb, zPd p0 p2 r2 r3 s4) = some (none, (zZ L, zI Cb', zPd p0 p2 r2 r3 s4)) ∧ zWu w u sa sb Ca' Cb' ∧ zFa Ca Ca' ∧ zFb Cb Cb' ∧ (Ca' 392 = Ca 392 ∧ Ca' 393 = Ca 393 ∧ Cb' 40 0 6 = Cb 40 0 6 ∧ Cb' 40 0 0 = Cb 40 0 0) ∧ (Cb' 43 u 10 = Cb 43 u 10 ∧ Cb' 43 u 15 = Cb 43 u 15 ∧ Ca' 3 u 15 = Ca 3 u 15 ∧ ∀ g, 50 ≤ g → Cb' g = Cb g ∨ g = 410 ∨ g = 411) := by
  obtain ⟨hG, hS, hRR, ⟨hT, hU⟩, hO, hE, hC, hK, hW, hL, hP⟩ := id h
  have hGe := zRG_e hG
  obtain ⟨n, hn8, hn⟩ := hG.2.2.2.2.2.2.1
  obtain ⟨t, ht8, ht⟩ := hG.2.2.2.2.2.2.2.1
  have hn0 : Ca 0 0 5 = nI n := hGe.2.2.2.2.2.1.trans hn
  have ht0 : Ca 0 0 6 = nI t := hGe.2.2.2.2.2.2.1.trans ht
  have hue := zRU_e hU
  obtain ⟨k1, k2, k3, k4, k5, k6, k7, k8, k9, k10, k11, k12⟩ := id hU
  obtain ⟨hx, hy, e6, e7, hxy⟩ := k7
  obtain ⟨fx, hfx, e5⟩ := k6
  have hx100 : hx ≤ 100 := by
    have : (if Cb 43 u 0 = 1 then 100 else 20) ≤ 100 := by split <;> omega
    omega
  by_cases hk : Cb 43 u 0 = 3
  · have q1 : (if (5 : Int32) < nI hx then 5 else nI hx) = nI (min hx 5) := by
      have := zmn1 (a := 5) (b := hx) (by omega) (by omega)
      rw [Nat.min_comm]; exact this
    have q2 := zm999 hfx
    have q3 := zmn1 (a := 999 - fx) (b := min hx 5) (by omega) (by omega)
    have q4 : (if (5 : Int32) ≤ nI hx then 5 else nI hx) = nI (min hx 5) := zmn2 (a := hx) (b := 5) (by omega) (by omega)
    have q5 := zmn2 (a := min hx 5) (b := 999 - fx) (by omega) (by omega)
    have q6 : min (999 - fx) (min hx 5) = min (min hx 5) (999 - fx) := Nat.min_comm _ _
    obtain ⟨M, hM⟩ : ∃ M, M = min (min hx 5) (999 - fx) := ⟨_, rfl⟩
    rw [q6, ← hM] at q3
    rw [← hM] at q5
    have q7 : nI hx - nI M = nI (hx - M) := nI_sub (by omega)
    refine ⟨zcs Ca 3 (zup (zup (zup (Ca 3) u 6 (nI (hx - M))) u 5 (nI (fx + M))) u 13 (Cb 43 u 13 + nI M)), zcs Cb 43 (zup (zup (zup (Cb 43) u 6 (nI (hx - M))) u 5 (nI (fx + M))) u 13 (Cb 43 u 13 + nI M)), ?_, ?_, ?_, zFa_s (zFa_r _) (by omega), zFb_s (zFb_r _) (by omega), ⟨by first | rfl | (simp (disch := omega) only [zcs_n]), by first | rfl | (simp (disch := omega) only [zcs_n]), by first | rfl | (simp (disch := omega) only [zcs_n]), by first | rfl | (simp (disch := omega) only [zcs_n])⟩, ⟨by first | rfl | (simp (disch := omega) only [zcs_eq, zcs_n, zup_n]), by first | rfl | (simp (disch := omega) only [zcs_eq, zcs_n, zup_n]), by first | rfl | (simp (disch := omega) only [zcs_eq, zcs_n, zup_n]), fun g hg => Or.inl (by first | rfl | (simp (disch := omega) only [zcs_n]))⟩⟩
    · simp +decide (disch := omega) only [e61_0, e61_11, e61_12, hue, e5, e6, hk, q1, q2, q3, q7, zpre, ite_self, zs1, zs2, zs3, zI_eqb, and_self, not_true_eq_false, if_true, if_false, ite_true, ite_false, not_false_eq_true, zBP, zBZ, zisO, zisA, zlen, decide_true, decide_false, Bool.and_self, Bool.and_true, Bool.true_and, cond_true, cond_false, zBG, zBR, zBU, zBV, zinb_n, zix_n, zlA, zlB, zlM, zlN, zlX, zlI, nI_add, Nat.add_eq_zero_iff, false_and, and_false, and_true, true_and, true_or, or_true, false_or, or_false, zbool_i, zb0, zb1, zshp_0, zcs_eq, zcs_n, zcs_cs, zup_g, zup_n, zp2_sun, zp2_rock, zp2_tug, zp2_contract, zp2_window, zp2_code, zp2_rbody, zp2_rstock, zp2_tfree, zp2_thold, zp2_tknown, zp2_ccells, zsh2_sun, zsh2_rock, zsh2_body, zsh2_stock, zsh2_tug, zsh2_free, zsh2_hold, zsh2_known, zsh2_contract, zsh2_window, zsh2_code, zsh2_cells, zg_nsun0, zg_nsun1, zg_nsun2, zg_nrock0, zg_nrock1, zg_nrock2, zg_nrock3, zg_nrock4, zg_nrock5, zg_nrock6, zg_nrock7, zg_nrock8, zg_nrock9, zg_nrock10, zg_nrock11, zg_nrock12, zg_nrock13, zg_nrock14, zg_ntug0, zg_ntug1, zg_ntug2, zg_ntug3, zg_ntug4, zg_ntug5, zg_ntug6, zg_ntug7, zg_ntug8, zg_ntug9, zg_ntug10, zg_ntug11, zg_ntug12, zg_ntug13, zg_ntug14, zg_ntug15, zg_ntug17, zg_ntug18, zg_ntug19, zg_ntug20, zg_ntug21, zg_ntug22, zg_ncon0, zg_ncon1, zg_ncon2, zg_ncon3, zg_ncon4, zg_ncon5, zg_ncon6, zg_nwin0, zg_nwin1, zg_nwin2, zg_nwin3, zg_nwin4, zg_nwin5, zg_ncode0, zg_ncode1, zg_ncode3, zg_nrule, zg_nstock, zg_nhold, zg_nknown, zg_nord, zg_nrep, zg_ncla, zg_ntou, zg_ncel, zu_nsun0, zu_nsun1, zu_nsun2, zu_nrock0, zu_nrock1, zu_nrock2, zu_nrock3, zu_nrock4, zu_nrock5, zu_nrock6, zu_nrock7, zu_nrock8, zu_nrock9, zu_nrock10, zu_nrock11, zu_nrock12, zu_nrock13, zu_nrock14, zu_ntug0, zu_ntug1, zu_ntug2, zu_ntug3, zu_ntug4, zu_ntug5, zu_ntug6, zu_ntug7, zu_ntug8, zu_ntug9, zu_ntug10, zu_ntug11, zu_ntug12, zu_ntug13, zu_ntug14, zu_ntug15, zu_ntug17, zu_ntug18, zu_ntug19, zu_ntug20, zu_ntug21, zu_ntug22, zu_ncon0, zu_ncon1, zu_ncon2, zu_ncon3, zu_ncon4, zu_ncon5, zu_ncon6, zu_nwin0, zu_nwin1, zu_nwin2, zu_nwin3, zu_nwin4, zu_nwin5, zu_ncode3, zu_nrule, zu_nstock, zu_nhold, zu_nknown, zu_nord, zu_nrep, zu_ncla, zu_ntou, zu_ncel]
    · simp +decide (disch := omega) only [e219_0, e219_19, e219_32, e219_47, e219_50, e219_51, T160, e5, e6, hk, q2, q4, q5, q7, zpre, ite_self, Nat.reduceAdd, zs1, zs2, zs3, zI_eqb, and_self, not_true_eq_false, if_true, if_false, ite_true, ite_false, not_false_eq_true, zBP, zBZ, zisO, zisA, zlen, decide_true, decide_false, Bool.and_self, Bool.and_true, Bool.true_and, cond_true, cond_false, zBG, zBR, zBU, zBV, zinb_n, zix_n, zlA, zlB, zlM, zlN, zlX, zlI, nI_add, Nat.add_eq_zero_iff, false_and, and_false, and_true, true_and, true_or, or_true, false_or, or_false, zbool_i, zb0, zb1, zshp_0, zcs_eq, zcs_n, zcs_cs, zup_g, zup_n, zg_srock2, zg_stug2, zg_ssun, zg_ssun0, zg_srock, zg_srock0, zg_stug, zg_stug0, zg_sord, zg_sord0, zg_srep, zg_srep0, zg_scla, zg_scla0, zg_scon, zg_scon0, zg_swin, zg_swin0, zg_sleg, zg_sleg0, zg_spro, zg_sstp, zg_swrd, zu_srock2, zu_stug2, zu_ssun, zu_ssun0, zu_srock, zu_srock0, zu_stug, zu_stug0, zu_sord, zu_sord0, zu_srep, zu_srep0, zu_scla, zu_scla0, zu_scon, zu_scon0, zu_swin, zu_swin0, zu_sleg, zu_sleg0, zu_spro, zu_sstp, zu_swrd]
    · refine zWu_t h _ _ (fun i hi => by simp (disch := exact hi) only [zup_row]) (fun i hi => by simp (disch := exact hi) only [zup_row]) ?_
      unfold zRU
      simp (disch := omega) only [zup_g, zup_n]
      refine ⟨?_, k2, k3, k4, ?_, ⟨fx + M, by omega, rfl⟩, ⟨hx - M, hy, rfl, e7, by omega⟩, k8, k9, k10, k11, ?_⟩
      · intro f hf hf1 hf2
        by_cases ef : f = 5 ∨ f = 6 ∨ f = 13
        · rcases ef with rfl | rfl | rfl <;> simp (disch := omega) only [zup_g, zup_n]
        · simp (disch := omega) only [zup_n]; exact k1 f hf hf1 hf2
      · intro f hf hf2; simp (disch := omega) only [zup_n]; exact k5 f hf hf2
      · first | exact k12 | (rcases k12 with q | ⟨z1, z2, z3⟩; exact Or.inl q; exact Or.inr ⟨z1, fun j hj => by simp (disch := omega) only [zup_n]; exact z2 j hj, z3⟩)
  · refine ⟨Ca, zcs Cb 43 (zup (zup (zup (Cb 43) u 6 (Cb 43 u 6)) u 5 (Cb 43 u 5)) u 13 (Cb 43 u 13)), ?_, ?_, ?_, zFa_r _, zFb_s (zFb_r _) (by omega), ⟨by first | rfl | (simp (disch := omega) only [zcs_n]), by first | rfl | (simp (disch := omega) only [zcs_n]), by first | rfl | (simp (disch := omega) only [zcs_n]), by first | rfl | (simp (disch := omega) only [zcs_n])⟩, ⟨by first | rfl | (simp (disch := omega) only [zcs_eq, zcs_n, zup_n]), by first | rfl | (simp (disch := omega) only [zcs_eq, zcs_n, zup_n]), by first | rfl | (simp (disch := omega) only [zcs_eq, zcs_n, zup_n]), fun g hg => Or.inl (by first | rfl | (simp (disch := omega) only [zcs_n]))⟩⟩
    · simp +decide (disch := omega) only [e61_0, e61_11, e61_12, hue, hk, zpre, ite_self, zs1, zs2, zs3, zI_eqb, and_self, not_true_eq_false, if_true, if_false, ite_true, ite_false, not_false_eq_true, zBP, zBZ, zisO, zisA, zlen, decide_true, decide_false, Bool.and_self, Bool.and_true, Bool.true_and, cond_true, cond_false, zBG, zBR, zBU, zBV, zinb_n, zix_n, zlA, zlB, zlM, zlN, zlX, zlI, nI_add, Nat.add_eq_zero_iff, false_and, and_false, and_true, true_and, true_or, or_true, false_or, or_false, zbool_i, zb0, zb1, zshp_0, zcs_eq, zcs_n, zcs_cs, zup_g, zup_n, zp2_sun, zp2_rock, zp2_tug, zp2_contract, zp2_window, zp2_code, zp2_rbody, zp2_rstock, zp2_tfree, zp2_thold, zp2_tknown, zp2_ccells, zsh2_sun, zsh2_rock, zsh2_body, zsh2_stock, zsh2_tug, zsh2_free, zsh2_hold, zsh2_known, zsh2_contract, zsh2_window, zsh2_code, zsh2_cells, zg_nsun0, zg_nsun1, zg_nsun2, zg_nrock0, zg_nrock1, zg_nrock2, zg_nrock3, zg_nrock4, zg_nrock5, zg_nrock6, zg_nrock7, zg_nrock8, zg_nrock9, zg_nrock10, zg_nrock11, zg_nrock12, zg_nrock13, zg_nrock14, zg_ntug0, zg_ntug1, zg_ntug2, zg_ntug3, zg_ntug4, zg_ntug5, zg_ntug6, zg_ntug7, zg_ntug8, zg_ntug9, zg_ntug10, zg_ntug11, zg_ntug12, zg_ntug13, zg_ntug14, zg_ntug15, zg_ntug17, zg_ntug18, zg_ntug19, zg_ntug20, zg_ntug21, zg_ntug22, zg_ncon0, zg_ncon1, zg_ncon2, zg_ncon3, zg_ncon4, zg_ncon5, zg_ncon6, zg_nwin0, zg_nwin1, zg_nwin2, zg_nwin3, zg_nwin4, zg_nwin5, zg_ncode0, zg_ncode1, zg_ncode3, zg_nrule, zg_nstock, zg_nhold, zg_nknown, zg_nord, zg_nrep, zg_ncla, zg_ntou, zg_ncel, zu_nsun0, zu_nsun1, zu_nsun2, zu_nrock0, zu_nrock1, zu_nrock2, zu_nrock3, zu_nrock4, zu_nrock5, zu_nrock6, zu_nrock7, zu_nrock8, zu_nrock9, zu_nrock10, zu_nrock11, zu_nrock12, zu_nrock13, zu_nrock14, zu_ntug0, zu_ntug1, zu_ntug2, zu_ntug3, zu_ntug4, zu_ntug5, zu_ntug6, zu_ntug7, zu_ntug8, zu_ntug9, zu_ntug10, zu_ntug11, zu_ntug12, zu_ntug13, zu_ntug14, zu_ntug15, zu_ntug17, zu_ntug18, zu_ntug19, zu_ntug20, zu_ntug21, zu_ntug22, zu_ncon0, zu_ncon1, zu_ncon2, zu_ncon3, zu_ncon4, zu_ncon5, zu_ncon6, zu_nwin0, zu_nwin1, zu_nwin2, zu_nwin3, zu_nwin4, zu_nwin5, zu_ncode3, zu_nrule, zu_nstock, zu_nhold, zu_nknown, zu_nord, zu_nrep, zu_ncla, zu_ntou, zu_ncel]
    · simp +decide (disch := omega) only [e219_0, e219_19, e219_32, e219_47, e219_50, e219_51, hk, Int32.sub_zero, Int32.add_zero, zpre, ite_self, Nat.reduceAdd, zs1, zs2, zs3, zI_eqb, and_self, not_true_eq_false, if_true, if_false, ite_true, ite_false, not_false_eq_true, zBP, zBZ, zisO, zisA, zlen, decide_true, decide_false, Bool.and_self, Bool.and_true, Bool.true_and, cond_true, cond_false, zBG, zBR, zBU, zBV, zinb_n, zix_n, zlA, zlB, zlM, zlN, zlX, zlI, nI_add, Nat.add_eq_zero_iff, false_and, and_false, and_true, true_and, true_or, or_true, false_or, or_false, zbool_i, zb0, zb1, zshp_0, zcs_eq, zcs_n, zcs_cs, zup_g, zup_n, zg_srock2, zg_stug2, zg_ssun, zg_ssun0, zg_srock, zg_srock0, zg_stug, zg_stug0, zg_sord, zg_sord0, zg_srep, zg_srep0, zg_scla, zg_scla0, zg_scon, zg_scon0, zg_swin, zg_swin0, zg_sleg, zg_sleg0, zg_spro, zg_sstp, zg_swrd, zu_srock2, zu_stug2, zu_ssun, zu_ssun0, zu_srock, zu_srock0, zu_stug, zu_stug0, zu_sord, zu_sord0, zu_srep, zu_srep0, zu_scla, zu_scla0, zu_scon, zu_scon0, zu_swin, zu_swin0, zu_sleg, zu_sleg0, zu_spro, zu_sstp, zu_swrd]
    · have e := zWu_t h (Ca 3) (zup (zup (zup (Cb 43) u 6 (Cb 43 u 6)) u 5 (Cb 43 u 5)) u 13 (Cb 43 u 13)) (fun _ _ => rfl) (fun i hi => by simp (disch := exact hi) only [zup_row]) (sa' := sa) (sb' := sb) (by
        have : zup (zup (zup (Cb 43) u 6 (Cb 43 u 6)) u 5 (Cb 43 u 5)) u 13 (Cb 43 u 13) u = Cb 43 u := by
          funext f
          unfold zup
          by_cases f1 : u = u ∧ f = 13
          · rw [if_pos f1, f1.2]
          · rw [if_neg f1]
            by_cases f2 : u = u ∧ f = 5
            · rw [if_pos f2, f2.2]
            · rw [if_neg f2]
              by_cases f3 : u = u ∧ f = 6
              · rw [if_pos f3, f3.2]
              · rw [if_neg f3]
        rw [this]; exact hU)
      rw [zcs_self] at e
      exact e
