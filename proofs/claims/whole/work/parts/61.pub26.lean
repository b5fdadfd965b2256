/-! THE TOUR: the pair, printed by wip/gen/pub26.py -/
theorem zcopG {C : zCt} {src dst gd : Nat} {rw cl : Nat → Nat} {un : Nat → Nat → Nat} {sv : Nat → Int32} (hs : ∀ k, zI C src k = sv k) (hd : ∀ k, zdk dst k = some (gd, rw k, cl k)) (hu : ∀ k, un (rw k) (cl k) = k) (hz : ∀ i f, (zunc gd i f).1 = dst) (n : Nat) : zcop (zI C) src 0 dst 0 n = zI (zcs C gd (fun i f => if un i f < n then sv (un i f) else C gd i f)) := by
  funext x j
  unfold zcop
  by_cases e : x = dst
  · subst e
    have e1 : ∀ F, zI (zcs C gd F) x j = F (rw j) (cl j) := fun F => by rw [zI_get (hd j), zcs_eq]
    rw [e1, hu]
    by_cases h : j < n
    · rw [if_pos ⟨rfl, by omega, by omega⟩, if_pos h, show 0 + (j - 0) = j by omega, hs j]
    · rw [if_neg (by omega), if_neg h, zI_get (hd j)]
  · rw [if_neg (fun h => e h.1)]
    unfold zI
    cases hk : zdk x j with
    | none => rfl
    | some t =>
      have ht : zdec x j = t := by
        unfold zdk at hk
        split at hk
        · cases hk
        · exact Option.some.inj hk
      show C t.1 t.2.1 t.2.2 = zcs C gd _ t.1 t.2.1 t.2.2
      unfold zcs
      by_cases hg : t.1 = gd
      · exfalso
        have h1 := zdec_u x j
        rw [ht, hg] at h1
        have h2 := hz t.2.1 t.2.2
        rw [h1] at h2
        exact e h2
      · rw [if_neg hg]
theorem zcoE (C : zCt) (n : Nat) : zcop (zI C) 198 0 16 0 n = zI (zcs C 9 (fun i f => if 4 * i + f < n then C 398 0 (4 * i + f) else C 9 i f)) := zcopG (rw := fun k => k / 4) (cl := fun k => k % 4) (un := fun i f => 4 * i + f) (sv := fun k => C 398 0 k) (fun _ => rfl) (fun _ => rfl) (fun k => by omega) (fun _ _ => rfl) n
theorem T46e (d L p0 p2 r2 r3 s4 : Nat) (C : zCt) (v : Value) {n : Nat} (hn : n ≤ 6) (hC : C 397 0 3 = nI n) : zR d 46 0 [.ref 15, .ref 197, v] [] (zZ L, zI C, zPd p0 p2 r2 r3 s4) = some (none, (zZ L, zI (zcs (zcs C 0 (zup (C 0) 0 13 (nI n))) 9 (fun i f => if 4 * i + f < n * 4 then C 398 0 (4 * i + f) else C 9 i f)), zPd p0 p2 r2 r3 s4)) := by
  have h1 : ¬ (6 : Int32) < nI n := nI_nlt (a := 6) (by omega) (by omega)
  have h2 : ¬ nI 24 < nI (n * 4) := nI_nlt (by omega) (by omega)
  have h3 : n * 4 ≤ 24 := by omega
  simp +decide (disch := omega) only [e46_0, hC, h1, h2, h3, zlt0, zcoE, Bool.true_or, Nat.zero_add, zpre, ite_self, zs1, zs2, zs3, zI_eqb, and_self, not_true_eq_false, if_true, if_false, ite_true, ite_false, not_false_eq_true, zBP, zBZ, zisO, zisA, zlen, decide_true, decide_false, Bool.and_self, Bool.and_true, Bool.true_and, cond_true, cond_false, zBG, zBR, zBU, zBV, zinb_n, zix_n, zlA, zlB, zlM, zlN, zlX, zlI, nI_add, Nat.add_eq_zero_iff, false_and, and_false, and_true, true_and, true_or, or_true, false_or, or_false, zbool_i, zb0, zb1, zshp_0, zcs_eq, zcs_n, zcs_cs, zup_g, zup_n, zp2_sun, zp2_rock, zp2_tug, zp2_contract, zp2_window, zp2_code, zp2_rbody, zp2_rstock, zp2_tfree, zp2_thold, zp2_tknown, zp2_ccells, zsh2_sun, zsh2_rock, zsh2_body, zsh2_stock, zsh2_tug, zsh2_free, zsh2_hold, zsh2_known, zsh2_contract, zsh2_window, zsh2_code, zsh2_cells, zg_nsun0, zg_nsun1, zg_nsun2, zg_nrock0, zg_nrock1, zg_nrock2, zg_nrock3, zg_nrock4, zg_nrock5, zg_nrock6, zg_nrock7, zg_nrock8, zg_nrock9, zg_nrock10, zg_nrock11, zg_nrock12, zg_nrock13, zg_nrock14, zg_ntug0, zg_ntug1, zg_ntug2, zg_ntug3, zg_ntug4, zg_ntug5, zg_ntug6, zg_ntug7, zg_ntug8, zg_ntug9, zg_ntug10, zg_ntug11, zg_ntug12, zg_ntug13, zg_ntug14, zg_ntug15, zg_ntug17, zg_ntug18, zg_ntug19, zg_ntug20, zg_ntug21, zg_ntug22, zg_ncon0, zg_ncon1, zg_ncon2, zg_ncon3, zg_ncon4, zg_ncon5, zg_ncon6, zg_nwin0, zg_nwin1, zg_nwin2, zg_nwin3, zg_nwin4, zg_nwin5, zg_ncode0, zg_ncode1, zg_ncode3, zg_nrule, zg_nstock, zg_nhold, zg_nknown, zg_nord, zg_nrep, zg_ncla, zg_ntou, zg_ncel, zu_nsun0, zu_nsun1, zu_nsun2, zu_nrock0, zu_nrock1, zu_nrock2, zu_nrock3, zu_nrock4, zu_nrock5, zu_nrock6, zu_nrock7, zu_nrock8, zu_nrock9, zu_nrock10, zu_nrock11, zu_nrock12, zu_nrock13, zu_nrock14, zu_ntug0, zu_ntug1, zu_ntug2, zu_ntug3, zu_ntug4, zu_ntug5, zu_ntug6, zu_ntug7, zu_ntug8, zu_ntug9, zu_ntug10, zu_ntug11, zu_ntug12, zu_ntug13, zu_ntug14, zu_ntug15, zu_ntug17, zu_ntug18, zu_ntug19, zu_ntug20, zu_ntug21, zu_ntug22, zu_ncon0, zu_ncon1, zu_ncon2, zu_ncon3, zu_ncon4, zu_ncon5, zu_ncon6, zu_nwin0, zu_nwin1, zu_nwin2, zu_nwin3, zu_nwin4, zu_nwin5, zu_ncode3, zu_nrule, zu_nstock, zu_nhold, zu_nknown, zu_nord, zu_nrep, zu_ncla, zu_ntou, zu_ncel]
theorem T67 (d L p0 p2 r2 r3 s4 : Nat) (wd : Nat → Nat → Nat) (K : zGp) (rt e nw nr rk dy fu mo : Nat) (C : zCt) (hDw : zDw wd rt nw nr e) (hrk : rk < nr) (hdy : dy ≤ 2000) (hfu : fu ≤ 999) (hmo : mo ≤ 20000) (hD : zDt C wd K rt nw nr) (bl pa : zGp) : ∃ C', zR (d + 12) 67 0 [.ref 194, .ref 2, .int (nI rk), .int (nI dy), .int (nI fu), .int (nI e), .int (nI mo)] [] (zZ L, zI C, zPd p0 p2 r2 r3 s4) = some (some (.int (if (zsch wd K rt e nw 6 0 rk dy fu 0 ((1 : Int32) <<< (nI rk &&& 31)) pa (mo, false, 0, dy, 0, bl)).2.1 = true then 0 else 1)), (zZ L, zI C', zPd p0 p2 r2 r3 2)) ∧ zFr C C' ∧ zSk C' e 0 pa 0 (zsch wd K rt e nw 6 0 rk dy fu 0 ((1 : Int32) <<< (nI rk &&& 31)) pa (mo, false, 0, dy, 0, bl)) := by
  obtain ⟨C1, hC1⟩ : ∃ C1, C1 = zcs (zcs (zcs C 394 (zup (zup (zup (zup (zup (zup (C 394) 0 5 (nI e)) 0 6 (nI mo)) 0 7 0) 0 8 0) 0 2 0) 0 3 (nI dy))) 395 (zup (C 395) 0 3 0)) 397 (zup (C 397) 0 3 0) := ⟨_, rfl⟩
  have fr : zFr C C1 := fun g hg => by rw [hC1, zcs_n _ _ (by omega), zcs_n _ _ (by omega), zcs_n _ _ (by omega)]
  have hS : zSk C1 e 0 pa 0 (mo, false, 0, dy, 0, bl) := by
    unfold zSk
    rw [hC1]
    simp (disch := omega) only [zcs_eq, zcs_n, zup_g, zup_n]
    exact ⟨⟨trivial, trivial, trivial, trivial, (if_neg Bool.false_ne_true).symm, trivial, rfl, rfl⟩, fun i hi => absurd hi (by omega), fun i hi => absurd hi (by omega), by omega, hmo, hdy, fun i hi => ⟨fun _ j hj => absurd hj (by omega), fun _ => zbt_0 (by omega)⟩⟩
  obtain ⟨C', z1, z2, z3⟩ := T68 L p0 p2 r2 r3 wd K rt e nw nr hDw 6 (d + 1) 0 rk dy fu 0 ((1 : Int32) <<< (nI rk &&& 31)) 0 pa (mo, false, 0, dy, 0, bl) C1 (by omega) hrk hdy hfu (zDt_c hD fr) hS
  refine ⟨C', ?_, zFr_t fr z2, z3⟩
  have h7 := z3.1.2.2.2.2.1
  obtain ⟨s', hs'⟩ : ∃ s', s' = zsch wd K rt e nw 6 0 rk dy fu 0 ((1 : Int32) <<< (nI rk &&& 31)) pa (mo, false, 0, dy, 0, bl) := ⟨_, rfl⟩
  rw [← hs'] at h7 ⊢
  rw [hC1] at z1
  have hcs : zcs (zcs (zcs (zcs C 394 (zup (zup (zup (zup (C 394) 0 5 (nI e)) 0 6 (nI mo)) 0 7 0) 0 8 0)) 395 (zup (C 395) 0 3 0)) 397 (zup (C 397) 0 3 0)) 394 (zup (zup (zup (zup (zup (zup (C 394) 0 5 (nI e)) 0 6 (nI mo)) 0 7 0) 0 8 0) 0 2 0) 0 3 (nI dy)) = zcs (zcs (zcs C 394 (zup (zup (zup (zup (zup (zup (C 394) 0 5 (nI e)) 0 6 (nI mo)) 0 7 0) 0 8 0) 0 2 0) 0 3 (nI dy))) 395 (zup (C 395) 0 3 0)) 397 (zup (C 397) 0 3 0) := by
    funext g
    unfold zcs
    by_cases e1 : g = 394
    · subst e1; simp +decide only [if_true, if_false]
    · simp only [if_neg e1]
  cases hb : s'.2.1 with
  | true =>
    rw [hb, if_pos rfl] at h7
    rw [if_pos rfl]
    simp +decide (disch := omega) only [e67_0, e67_34, e67_41, e67_63, e67_70, e67_74, e67_75, e40_0, zPu_s4, hcs, z1, h7, zpre, ite_self, zs1, zs2, zs3, zI_eqb, and_self, not_true_eq_false, if_true, if_false, ite_true, ite_false, not_false_eq_true, zBP, zBZ, zisO, zisA, zlen, decide_true, decide_false, Bool.and_self, Bool.and_true, Bool.true_and, cond_true, cond_false, zBG, zBR, zBU, zBV, zinb_n, zix_n, zlA, zlB, zlM, zlN, zlX, zlI, nI_add, Nat.add_eq_zero_iff, false_and, and_false, and_true, true_and, true_or, or_true, false_or, or_false, zbool_i, zb0, zb1, zshp_0, zcs_eq, zcs_n, zcs_cs, zup_g, zup_n, zp2_sun, zp2_rock, zp2_tug, zp2_contract, zp2_window, zp2_code, zp2_rbody, zp2_rstock, zp2_tfree, zp2_thold, zp2_tknown, zp2_ccells, zsh2_sun, zsh2_rock, zsh2_body, zsh2_stock, zsh2_tug, zsh2_free, zsh2_hold, zsh2_known, zsh2_contract, zsh2_window, zsh2_code, zsh2_cells, zg_nsun0, zg_nsun1, zg_nsun2, zg_nrock0, zg_nrock1, zg_nrock2, zg_nrock3, zg_nrock4, zg_nrock5, zg_nrock6, zg_nrock7, zg_nrock8, zg_nrock9, zg_nrock10, zg_nrock11, zg_nrock12, zg_nrock13, zg_nrock14, zg_ntug0, zg_ntug1, zg_ntug2, zg_ntug3, zg_ntug4, zg_ntug5, zg_ntug6, zg_ntug7, zg_ntug8, zg_ntug9, zg_ntug10, zg_ntug11, zg_ntug12, zg_ntug13, zg_ntug14, zg_ntug15, zg_ntug17, zg_ntug18, zg_ntug19, zg_ntug20, zg_ntug21, zg_ntug22, zg_ncon0, zg_ncon1, zg_ncon2, zg_ncon3, zg_ncon4, zg_ncon5, zg_ncon6, zg_nwin0, zg_nwin1, zg_nwin2, zg_nwin3, zg_nwin4, zg_nwin5, zg_ncode0, zg_ncode1, zg_ncode3, zg_nrule, zg_nstock, zg_nhold, zg_nknown, zg_nord, zg_nrep, zg_ncla, zg_ntou, zg_ncel, zu_nsun0, zu_nsun1, zu_nsun2, zu_nrock0, zu_nrock1, zu_nrock2, zu_nrock3, zu_nrock4, zu_nrock5, zu_nrock6, zu_nrock7, zu_nrock8, zu_nrock9, zu_nrock10, zu_nrock11, zu_nrock12, zu_nrock13, zu_nrock14, zu_ntug0, zu_ntug1, zu_ntug2, zu_ntug3, zu_ntug4, zu_ntug5, zu_ntug6, zu_ntug7, zu_ntug8, zu_ntug9, zu_ntug10, zu_ntug11, zu_ntug12, zu_ntug13, zu_ntug14, zu_ntug15, zu_ntug17, zu_ntug18, zu_ntug19, zu_ntug20, zu_ntug21, zu_ntug22, zu_ncon0, zu_ncon1, zu_ncon2, zu_ncon3, zu_ncon4, zu_ncon5, zu_ncon6, zu_nwin0, zu_nwin1, zu_nwin2, zu_nwin3, zu_nwin4, zu_nwin5, zu_ncode3, zu_nrule, zu_nstock, zu_nhold, zu_nknown, zu_nord, zu_nrep, zu_ncla, zu_ntou, zu_ncel]
  | false =>
    rw [hb, if_neg Bool.false_ne_true] at h7
    rw [if_neg Bool.false_ne_true]
    simp +decide (disch := omega) only [e67_0, e67_34, e67_41, e67_63, e67_70, e67_74, e67_75, e40_0, zPu_s4, hcs, z1, h7, zpre, ite_self, zs1, zs2, zs3, zI_eqb, and_self, not_true_eq_false, if_true, if_false, ite_true, ite_false, not_false_eq_true, zBP, zBZ, zisO, zisA, zlen, decide_true, decide_false, Bool.and_self, Bool.and_true, Bool.true_and, cond_true, cond_false, zBG, zBR, zBU, zBV, zinb_n, zix_n, zlA, zlB, zlM, zlN, zlX, zlI, nI_add, Nat.add_eq_zero_iff, false_and, and_false, and_true, true_and, true_or, or_true, false_or, or_false, zbool_i, zb0, zb1, zshp_0, zcs_eq, zcs_n, zcs_cs, zup_g, zup_n, zp2_sun, zp2_rock, zp2_tug, zp2_contract, zp2_window, zp2_code, zp2_rbody, zp2_rstock, zp2_tfree, zp2_thold, zp2_tknown, zp2_ccells, zsh2_sun, zsh2_rock, zsh2_body, zsh2_stock, zsh2_tug, zsh2_free, zsh2_hold, zsh2_known, zsh2_contract, zsh2_window, zsh2_code, zsh2_cells, zg_nsun0, zg_nsun1, zg_nsun2, zg_nrock0, zg_nrock1, zg_nrock2, zg_nrock3, zg_nrock4, zg_nrock5, zg_nrock6, zg_nrock7, zg_nrock8, zg_nrock9, zg_nrock10, zg_nrock11, zg_nrock12, zg_nrock13, zg_nrock14, zg_ntug0, zg_ntug1, zg_ntug2, zg_ntug3, zg_ntug4, zg_ntug5, zg_ntug6, zg_ntug7, zg_ntug8, zg_ntug9, zg_ntug10, zg_ntug11, zg_ntug12, zg_ntug13, zg_ntug14, zg_ntug15, zg_ntug17, zg_ntug18, zg_ntug19, zg_ntug20, zg_ntug21, zg_ntug22, zg_ncon0, zg_ncon1, zg_ncon2, zg_ncon3, zg_ncon4, zg_ncon5, zg_ncon6, zg_nwin0, zg_nwin1, zg_nwin2, zg_nwin3, zg_nwin4, zg_nwin5, zg_ncode0, zg_ncode1, zg_ncode3, zg_nrule, zg_nstock, zg_nhold, zg_nknown, zg_nord, zg_nrep, zg_ncla, zg_ntou, zg_ncel, zu_nsun0, zu_nsun1, zu_nsun2, zu_nrock0, zu_nrock1, zu_nrock2, zu_nrock3, zu_nrock4, zu_nrock5, zu_nrock6, zu_nrock7, zu_nrock8, zu_nrock9, zu_nrock10, zu_nrock11, zu_nrock12, zu_nrock13, zu_nrock14, zu_ntug0, zu_ntug1, zu_ntug2, zu_ntug3, zu_ntug4, zu_ntug5, zu_ntug6, zu_ntug7, zu_ntug8, zu_ntug9, zu_ntug10, zu_ntug11, zu_ntug12, zu_ntug13, zu_ntug14, zu_ntug15, zu_ntug17, zu_ntug18, zu_ntug19, zu_ntug20, zu_ntug21, zu_ntug22, zu_ncon0, zu_ncon1, zu_ncon2, zu_ncon3, zu_ncon4, zu_ncon5, zu_ncon6, zu_nwin0, zu_nwin1, zu_nwin2, zu_nwin3, zu_nwin4, zu_nwin5, zu_ncode3, zu_nrule, zu_nstock, zu_nhold, zu_nknown, zu_nord, zu_nrep, zu_ncla, zu_ntou, zu_ncel]
theorem zu_sleg3 (C : zCt) {k : Nat} (h : k < 24) (v : Int32) : zup (zI C) 202 (1062 + k) v = zI (zcs C 49 (zup (C 49) (k / 4) (k % 4) v)) := by
  have := zu_sleg C (i := k / 4) (c := k % 4) (by omega) (by omega) v
  rw [show 1062 + 4 * (k / 4) + k % 4 = 1062 + k by omega] at this
  exact this
/-- cells k .. m-1 of the legs out of b -/
def zlgF (a : zGp) (b : Nat → Int32) (k m : Nat) : zGp := fun i f => if f < 4 ∧ k ≤ 4 * i + f ∧ 4 * i + f < m then b (4 * i + f) else a i f
theorem zlgF_st (a : zGp) (b : Nat → Int32) (k m : Nat) (h : k < m) : zlgF (zup a (k / 4) (k % 4) (b k)) b (k + 1) m = zlgF a b k m := by
  funext i f
  unfold zlgF zup
  by_cases h1 : f < 4 ∧ k + 1 ≤ 4 * i + f ∧ 4 * i + f < m
  · rw [if_pos h1, if_pos ⟨h1.1, by omega, h1.2.2⟩]
  · rw [if_neg h1]
    by_cases h2 : i = k / 4 ∧ f = k % 4
    · rw [if_pos h2, if_pos ⟨by omega, by omega, by omega⟩]
      congr 1; omega
    · rw [if_neg h2, if_neg]
      rintro ⟨e1, e2, e3⟩
      by_cases e : 4 * i + f = k
      · exact h2 ⟨by omega, by omega⟩
      · exact h1 ⟨e1, by omega, e3⟩
theorem T242_227 (d L p0 p2 r2 r3 s4 n : Nat) (w y1 y2 y3 y4 y5 y6 y7 : Int32) (hn : n ≤ 6) : ∀ (m k : Nat) (C : zCt), C 401 0 33 = nI n → C 401 0 34 = w → k + m = 4 * n → zR d 242 227 [.ref 201, .int y1, .int y2, .int y3, .int y4, .int y5, .int y6, .int y7, .int (nI k)] [] (zZ L, zI C, zPd p0 p2 r2 r3 s4) = some (some (.int w), (zZ L, zI (zcs C 49 (zlgF (C 49) (C 418 0) k (4 * n))), zPd p0 p2 r2 r3 s4)) := by
  intro m
  induction m with
  | zero =>
    intro k C h33 h34 hk
    have hk : k = 4 * n := by omega
    subst hk
    have hz : zlgF (C 49) (C 418 0) (4 * n) (4 * n) = C 49 := by
      funext i f
      exact if_neg (fun e => by omega)
    have h1 : nI (4 * n) ≤ nI (4 * n) := Int32.le_refl _
    rw [hz, zcs_self, e242_227]
    simp +decide (disch := omega) only [e242_262, h33, h34, h1, zpre, ite_self, Nat.reduceAdd, zs1, zs2, zs3, zI_eqb, and_self, not_true_eq_false, if_true, if_false, ite_true, ite_false, not_false_eq_true, zBP, zBZ, zisO, zisA, zlen, decide_true, decide_false, Bool.and_self, Bool.and_true, Bool.true_and, cond_true, cond_false, zBG, zBR, zBU, zBV, zinb_n, zix_n, zlA, zlB, zlM, zlN, zlX, zlI, nI_add, Nat.add_eq_zero_iff, false_and, and_false, and_true, true_and, true_or, or_true, false_or, or_false, zbool_i, zb0, zb1, zshp_0, zcs_eq, zcs_n, zcs_cs, zup_g, zup_n, zg_srock2, zg_stug2, zg_ssun, zg_ssun0, zg_srock, zg_srock0, zg_stug, zg_stug0, zg_sord, zg_sord0, zg_srep, zg_srep0, zg_scla, zg_scla0, zg_scon, zg_scon0, zg_swin, zg_swin0, zg_sleg, zg_sleg0, zg_spro, zg_sstp, zg_swrd, zu_srock2, zu_stug2, zu_ssun, zu_ssun0, zu_srock, zu_srock0, zu_stug, zu_stug0, zu_sord, zu_sord0, zu_srep, zu_srep0, zu_scla, zu_scla0, zu_scon, zu_scon0, zu_swin, zu_swin0, zu_sleg, zu_sleg0, zu_spro, zu_sstp, zu_swrd]
  | succ m ih =>
    intro k C h33 h34 hk
    have hge : ¬ nI (4 * n) ≤ nI k := nI_ge (by omega) (by omega)
    have hk24 : k < 24 := by omega
    rw [e242_227]
    simp +decide (disch := omega) only [e242_238, h33, hge, zu_sleg3, zpre, ite_self, Nat.reduceAdd, zs1, zs2, zs3, zI_eqb, and_self, not_true_eq_false, if_true, if_false, ite_true, ite_false, not_false_eq_true, zBP, zBZ, zisO, zisA, zlen, decide_true, decide_false, Bool.and_self, Bool.and_true, Bool.true_and, cond_true, cond_false, zBG, zBR, zBU, zBV, zinb_n, zix_n, zlA, zlB, zlM, zlN, zlX, zlI, nI_add, Nat.add_eq_zero_iff, false_and, and_false, and_true, true_and, true_or, or_true, false_or, or_false, zbool_i, zb0, zb1, zshp_0, zcs_eq, zcs_n, zcs_cs, zup_g, zup_n, zg_srock2, zg_stug2, zg_ssun, zg_ssun0, zg_srock, zg_srock0, zg_stug, zg_stug0, zg_sord, zg_sord0, zg_srep, zg_srep0, zg_scla, zg_scla0, zg_scon, zg_scon0, zg_swin, zg_swin0, zg_sleg, zg_sleg0, zg_spro, zg_sstp, zg_swrd, zu_srock2, zu_stug2, zu_ssun, zu_ssun0, zu_srock, zu_srock0, zu_stug, zu_stug0, zu_sord, zu_sord0, zu_srep, zu_srep0, zu_scla, zu_scla0, zu_scon, zu_scon0, zu_swin, zu_swin0, zu_sleg, zu_sleg0, zu_spro, zu_sstp, zu_swrd]
    rw [ih (k + 1) _ (by rw [zcs_n _ _ (by decide)]; exact h33) (by rw [zcs_n _ _ (by decide)]; exact h34) (by omega)]
    simp (disch := omega) only [zcs_eq, zcs_cs, zcs_n]
    rw [zlgF_st _ _ _ _ (by omega)]

theorem pr_tour (d L : Nat) (C : zCt) (hR : zRep C) (x t c en mo : Int32) : zPair d 141 242 [.ref 1, .int x, .int t, .int c, .int en, .int mo] [.ref 201, .int x, .int t, .int c, .int en, .int mo, zmk, zmk, zmk] L C := by
  obtain ⟨⟨w, hG, hS, hRR, hT, hO, hE, hC, hK, hW, hL, hP⟩, hX⟩ := id hR
  have hGe := zRG_e hG
  rintro ⟨p0, p2, r2, r3, s4⟩
  obtain ⟨n, hn8, hn⟩ := hG.2.2.2.2.2.2.1
  obtain ⟨wn, hwn8, hwn⟩ := hG.2.2.2.2.2.2.2.2.2.2.2.2.1
  by_cases hk : 0 ≤ x ∧ ¬ nI n ≤ x
  case neg =>
    simp +decide (disch := omega) only [e141_0, e141_8, e141_11, e141_19, e141_22, e141_30, e141_33, e141_36, e141_45, e141_48, e141_57, e141_60, e141_63, e141_81, e141_84, e141_88, e141_105, T85, T107, hGe, hn, hwn, hk, zpre, ite_self, zs1, zs2, zs3, zI_eqb, and_self, not_true_eq_false, if_true, if_false, ite_true, ite_false, not_false_eq_true, zBP, zBZ, zisO, zisA, zlen, decide_true, decide_false, Bool.and_self, Bool.and_true, Bool.true_and, cond_true, cond_false, zBG, zBR, zBU, zBV, zinb_n, zix_n, zlA, zlB, zlM, zlN, zlX, zlI, nI_add, Nat.add_eq_zero_iff, false_and, and_false, and_true, true_and, true_or, or_true, false_or, or_false, zbool_i, zb0, zb1, zshp_0, zcs_eq, zcs_n, zcs_cs, zup_g, zup_n, zp2_sun, zp2_rock, zp2_tug, zp2_contract, zp2_window, zp2_code, zp2_rbody, zp2_rstock, zp2_tfree, zp2_thold, zp2_tknown, zp2_ccells, zsh2_sun, zsh2_rock, zsh2_body, zsh2_stock, zsh2_tug, zsh2_free, zsh2_hold, zsh2_known, zsh2_contract, zsh2_window, zsh2_code, zsh2_cells, zg_nsun0, zg_nsun1, zg_nsun2, zg_nrock0, zg_nrock1, zg_nrock2, zg_nrock3, zg_nrock4, zg_nrock5, zg_nrock6, zg_nrock7, zg_nrock8, zg_nrock9, zg_nrock10, zg_nrock11, zg_nrock12, zg_nrock13, zg_nrock14, zg_ntug0, zg_ntug1, zg_ntug2, zg_ntug3, zg_ntug4, zg_ntug5, zg_ntug6, zg_ntug7, zg_ntug8, zg_ntug9, zg_ntug10, zg_ntug11, zg_ntug12, zg_ntug13, zg_ntug14, zg_ntug15, zg_ntug17, zg_ntug18, zg_ntug19, zg_ntug20, zg_ntug21, zg_ntug22, zg_ncon0, zg_ncon1, zg_ncon2, zg_ncon3, zg_ncon4, zg_ncon5, zg_ncon6, zg_nwin0, zg_nwin1, zg_nwin2, zg_nwin3, zg_nwin4, zg_nwin5, zg_ncode0, zg_ncode1, zg_ncode3, zg_nrule, zg_nstock, zg_nhold, zg_nknown, zg_nord, zg_nrep, zg_ncla, zg_ntou, zg_ncel, zu_nsun0, zu_nsun1, zu_nsun2, zu_nrock0, zu_nrock1, zu_nrock2, zu_nrock3, zu_nrock4, zu_nrock5, zu_nrock6, zu_nrock7, zu_nrock8, zu_nrock9, zu_nrock10, zu_nrock11, zu_nrock12, zu_nrock13, zu_nrock14, zu_ntug0, zu_ntug1, zu_ntug2, zu_ntug3, zu_ntug4, zu_ntug5, zu_ntug6, zu_ntug7, zu_ntug8, zu_ntug9, zu_ntug10, zu_ntug11, zu_ntug12, zu_ntug13, zu_ntug14, zu_ntug15, zu_ntug17, zu_ntug18, zu_ntug19, zu_ntug20, zu_ntug21, zu_ntug22, zu_ncon0, zu_ncon1, zu_ncon2, zu_ncon3, zu_ncon4, zu_ncon5, zu_ncon6, zu_nwin0, zu_nwin1, zu_nwin2, zu_nwin3, zu_nwin4, zu_nwin5, zu_ncode3, zu_nrule, zu_nstock, zu_nhold, zu_nknown, zu_nord, zu_nrep, zu_ncla, zu_ntou, zu_ncel]
    refine ⟨_, _, (p0, p2, r2, r3, s4), rfl, ?_⟩
    simp +decide (disch := omega) only [e242_0, e242_5, e242_8, e242_16, e242_19, e242_27, e242_30, e242_39, e242_42, e242_51, e242_54, e242_57, T157, T154, hn, hwn, hk, zpre, ite_self, Nat.reduceAdd, zs1, zs2, zs3, zI_eqb, and_self, not_true_eq_false, if_true, if_false, ite_true, ite_false, not_false_eq_true, zBP, zBZ, zisO, zisA, zlen, decide_true, decide_false, Bool.and_self, Bool.and_true, Bool.true_and, cond_true, cond_false, zBG, zBR, zBU, zBV, zinb_n, zix_n, zlA, zlB, zlM, zlN, zlX, zlI, nI_add, Nat.add_eq_zero_iff, false_and, and_false, and_true, true_and, true_or, or_true, false_or, or_false, zbool_i, zb0, zb1, zshp_0, zcs_eq, zcs_n, zcs_cs, zup_g, zup_n, zg_srock2, zg_stug2, zg_ssun, zg_ssun0, zg_srock, zg_srock0, zg_stug, zg_stug0, zg_sord, zg_sord0, zg_srep, zg_srep0, zg_scla, zg_scla0, zg_scon, zg_scon0, zg_swin, zg_swin0, zg_sleg, zg_sleg0, zg_spro, zg_sstp, zg_swrd, zu_srock2, zu_stug2, zu_ssun, zu_ssun0, zu_srock, zu_srock0, zu_stug, zu_stug0, zu_sord, zu_sord0, zu_srep, zu_srep0, zu_scla, zu_scla0, zu_scon, zu_scon0, zu_swin, zu_swin0, zu_sleg, zu_sleg0, zu_spro, zu_sstp, zu_swrd]
    exact ⟨_, rfl, hR, rfl⟩
  obtain ⟨r, hr, rfl⟩ := zinr hk (by omega)
  have hr1 := hRR r (by rw [hn, zix_n (by omega)]; exact hr)
  have hre := zRR1_e hr1
  by_cases h2 : 0 ≤ t ∧ t ≤ 999
  case neg =>
    simp +decide (disch := omega) only [e141_0, e141_8, e141_11, e141_19, e141_22, e141_30, e141_33, e141_36, e141_45, e141_48, e141_57, e141_60, e141_63, e141_81, e141_84, e141_88, e141_105, T85, T107, hGe, hn, hwn, hk, h2, zpre, ite_self, zs1, zs2, zs3, zI_eqb, and_self, not_true_eq_false, if_true, if_false, ite_true, ite_false, not_false_eq_true, zBP, zBZ, zisO, zisA, zlen, decide_true, decide_false, Bool.and_self, Bool.and_true, Bool.true_and, cond_true, cond_false, zBG, zBR, zBU, zBV, zinb_n, zix_n, zlA, zlB, zlM, zlN, zlX, zlI, nI_add, Nat.add_eq_zero_iff, false_and, and_false, and_true, true_and, true_or, or_true, false_or, or_false, zbool_i, zb0, zb1, zshp_0, zcs_eq, zcs_n, zcs_cs, zup_g, zup_n, zp2_sun, zp2_rock, zp2_tug, zp2_contract, zp2_window, zp2_code, zp2_rbody, zp2_rstock, zp2_tfree, zp2_thold, zp2_tknown, zp2_ccells, zsh2_sun, zsh2_rock, zsh2_body, zsh2_stock, zsh2_tug, zsh2_free, zsh2_hold, zsh2_known, zsh2_contract, zsh2_window, zsh2_code, zsh2_cells, zg_nsun0, zg_nsun1, zg_nsun2, zg_nrock0, zg_nrock1, zg_nrock2, zg_nrock3, zg_nrock4, zg_nrock5, zg_nrock6, zg_nrock7, zg_nrock8, zg_nrock9, zg_nrock10, zg_nrock11, zg_nrock12, zg_nrock13, zg_nrock14, zg_ntug0, zg_ntug1, zg_ntug2, zg_ntug3, zg_ntug4, zg_ntug5, zg_ntug6, zg_ntug7, zg_ntug8, zg_ntug9, zg_ntug10, zg_ntug11, zg_ntug12, zg_ntug13, zg_ntug14, zg_ntug15, zg_ntug17, zg_ntug18, zg_ntug19, zg_ntug20, zg_ntug21, zg_ntug22, zg_ncon0, zg_ncon1, zg_ncon2, zg_ncon3, zg_ncon4, zg_ncon5, zg_ncon6, zg_nwin0, zg_nwin1, zg_nwin2, zg_nwin3, zg_nwin4, zg_nwin5, zg_ncode0, zg_ncode1, zg_ncode3, zg_nrule, zg_nstock, zg_nhold, zg_nknown, zg_nord, zg_nrep, zg_ncla, zg_ntou, zg_ncel, zu_nsun0, zu_nsun1, zu_nsun2, zu_nrock0, zu_nrock1, zu_nrock2, zu_nrock3, zu_nrock4, zu_nrock5, zu_nrock6, zu_nrock7, zu_nrock8, zu_nrock9, zu_nrock10, zu_nrock11, zu_nrock12, zu_nrock13, zu_nrock14, zu_ntug0, zu_ntug1, zu_ntug2, zu_ntug3, zu_ntug4, zu_ntug5, zu_ntug6, zu_ntug7, zu_ntug8, zu_ntug9, zu_ntug10, zu_ntug11, zu_ntug12, zu_ntug13, zu_ntug14, zu_ntug15, zu_ntug17, zu_ntug18, zu_ntug19, zu_ntug20, zu_ntug21, zu_ntug22, zu_ncon0, zu_ncon1, zu_ncon2, zu_ncon3, zu_ncon4, zu_ncon5, zu_ncon6, zu_nwin0, zu_nwin1, zu_nwin2, zu_nwin3, zu_nwin4, zu_nwin5, zu_ncode3, zu_nrule, zu_nstock, zu_nhold, zu_nknown, zu_nord, zu_nrep, zu_ncla, zu_ntou, zu_ncel]
    refine ⟨_, _, (p0, p2, r2, r3, s4), rfl, ?_⟩
    simp +decide (disch := omega) only [e242_0, e242_5, e242_8, e242_16, e242_19, e242_27, e242_30, e242_39, e242_42, e242_51, e242_54, e242_57, T157, T154, hn, hwn, hk, h2, zpre, ite_self, Nat.reduceAdd, zs1, zs2, zs3, zI_eqb, and_self, not_true_eq_false, if_true, if_false, ite_true, ite_false, not_false_eq_true, zBP, zBZ, zisO, zisA, zlen, decide_true, decide_false, Bool.and_self, Bool.and_true, Bool.true_and, cond_true, cond_false, zBG, zBR, zBU, zBV, zinb_n, zix_n, zlA, zlB, zlM, zlN, zlX, zlI, nI_add, Nat.add_eq_zero_iff, false_and, and_false, and_true, true_and, true_or, or_true, false_or, or_false, zbool_i, zb0, zb1, zshp_0, zcs_eq, zcs_n, zcs_cs, zup_g, zup_n, zg_srock2, zg_stug2, zg_ssun, zg_ssun0, zg_srock, zg_srock0, zg_stug, zg_stug0, zg_sord, zg_sord0, zg_srep, zg_srep0, zg_scla, zg_scla0, zg_scon, zg_scon0, zg_swin, zg_swin0, zg_sleg, zg_sleg0, zg_spro, zg_sstp, zg_swrd, zu_srock2, zu_stug2, zu_ssun, zu_ssun0, zu_srock, zu_srock0, zu_stug, zu_stug0, zu_sord, zu_sord0, zu_srep, zu_srep0, zu_scla, zu_scla0, zu_scon, zu_scon0, zu_swin, zu_swin0, zu_sleg, zu_sleg0, zu_spro, zu_sstp, zu_swrd]
    exact ⟨_, rfl, hR, rfl⟩
  by_cases h3 : 0 ≤ c ∧ c ≤ 999
  case neg =>
    simp +decide (disch := omega) only [e141_0, e141_8, e141_11, e141_19, e141_22, e141_30, e141_33, e141_36, e141_45, e141_48, e141_57, e141_60, e141_63, e141_81, e141_84, e141_88, e141_105, T85, T107, hGe, hn, hwn, hk, h2, h3, zpre, ite_self, zs1, zs2, zs3, zI_eqb, and_self, not_true_eq_false, if_true, if_false, ite_true, ite_false, not_false_eq_true, zBP, zBZ, zisO, zisA, zlen, decide_true, decide_false, Bool.and_self, Bool.and_true, Bool.true_and, cond_true, cond_false, zBG, zBR, zBU, zBV, zinb_n, zix_n, zlA, zlB, zlM, zlN, zlX, zlI, nI_add, Nat.add_eq_zero_iff, false_and, and_false, and_true, true_and, true_or, or_true, false_or, or_false, zbool_i, zb0, zb1, zshp_0, zcs_eq, zcs_n, zcs_cs, zup_g, zup_n, zp2_sun, zp2_rock, zp2_tug, zp2_contract, zp2_window, zp2_code, zp2_rbody, zp2_rstock, zp2_tfree, zp2_thold, zp2_tknown, zp2_ccells, zsh2_sun, zsh2_rock, zsh2_body, zsh2_stock, zsh2_tug, zsh2_free, zsh2_hold, zsh2_known, zsh2_contract, zsh2_window, zsh2_code, zsh2_cells, zg_nsun0, zg_nsun1, zg_nsun2, zg_nrock0, zg_nrock1, zg_nrock2, zg_nrock3, zg_nrock4, zg_nrock5, zg_nrock6, zg_nrock7, zg_nrock8, zg_nrock9, zg_nrock10, zg_nrock11, zg_nrock12, zg_nrock13, zg_nrock14, zg_ntug0, zg_ntug1, zg_ntug2, zg_ntug3, zg_ntug4, zg_ntug5, zg_ntug6, zg_ntug7, zg_ntug8, zg_ntug9, zg_ntug10, zg_ntug11, zg_ntug12, zg_ntug13, zg_ntug14, zg_ntug15, zg_ntug17, zg_ntug18, zg_ntug19, zg_ntug20, zg_ntug21, zg_ntug22, zg_ncon0, zg_ncon1, zg_ncon2, zg_ncon3, zg_ncon4, zg_ncon5, zg_ncon6, zg_nwin0, zg_nwin1, zg_nwin2, zg_nwin3, zg_nwin4, zg_nwin5, zg_ncode0, zg_ncode1, zg_ncode3, zg_nrule, zg_nstock, zg_nhold, zg_nknown, zg_nord, zg_nrep, zg_ncla, zg_ntou, zg_ncel, zu_nsun0, zu_nsun1, zu_nsun2, zu_nrock0, zu_nrock1, zu_nrock2, zu_nrock3, zu_nrock4, zu_nrock5, zu_nrock6, zu_nrock7, zu_nrock8, zu_nrock9, zu_nrock10, zu_nrock11, zu_nrock12, zu_nrock13, zu_nrock14, zu_ntug0, zu_ntug1, zu_ntug2, zu_ntug3, zu_ntug4, zu_ntug5, zu_ntug6, zu_ntug7, zu_ntug8, zu_ntug9, zu_ntug10, zu_ntug11, zu_ntug12, zu_ntug13, zu_ntug14, zu_ntug15, zu_ntug17, zu_ntug18, zu_ntug19, zu_ntug20, zu_ntug21, zu_ntug22, zu_ncon0, zu_ncon1, zu_ncon2, zu_ncon3, zu_ncon4, zu_ncon5, zu_ncon6, zu_nwin0, zu_nwin1, zu_nwin2, zu_nwin3, zu_nwin4, zu_nwin5, zu_ncode3, zu_nrule, zu_nstock, zu_nhold, zu_nknown, zu_nord, zu_nrep, zu_ncla, zu_ntou, zu_ncel]
    refine ⟨_, _, (p0, p2, r2, r3, s4), rfl, ?_⟩
    simp +decide (disch := omega) only [e242_0, e242_5, e242_8, e242_16, e242_19, e242_27, e242_30, e242_39, e242_42, e242_51, e242_54, e242_57, T157, T154, hn, hwn, hk, h2, h3, zpre, ite_self, Nat.reduceAdd, zs1, zs2, zs3, zI_eqb, and_self, not_true_eq_false, if_true, if_false, ite_true, ite_false, not_false_eq_true, zBP, zBZ, zisO, zisA, zlen, decide_true, decide_false, Bool.and_self, Bool.and_true, Bool.true_and, cond_true, cond_false, zBG, zBR, zBU, zBV, zinb_n, zix_n, zlA, zlB, zlM, zlN, zlX, zlI, nI_add, Nat.add_eq_zero_iff, false_and, and_false, and_true, true_and, true_or, or_true, false_or, or_false, zbool_i, zb0, zb1, zshp_0, zcs_eq, zcs_n, zcs_cs, zup_g, zup_n, zg_srock2, zg_stug2, zg_ssun, zg_ssun0, zg_srock, zg_srock0, zg_stug, zg_stug0, zg_sord, zg_sord0, zg_srep, zg_srep0, zg_scla, zg_scla0, zg_scon, zg_scon0, zg_swin, zg_swin0, zg_sleg, zg_sleg0, zg_spro, zg_sstp, zg_swrd, zu_srock2, zu_stug2, zu_ssun, zu_ssun0, zu_srock, zu_srock0, zu_stug, zu_stug0, zu_sord, zu_sord0, zu_srep, zu_srep0, zu_scla, zu_scla0, zu_scon, zu_scon0, zu_swin, zu_swin0, zu_sleg, zu_sleg0, zu_spro, zu_sstp, zu_swrd]
    exact ⟨_, rfl, hR, rfl⟩
  by_cases h4 : t ≤ en ∧ en ≤ 2000
  case neg =>
    simp +decide (disch := omega) only [e141_0, e141_8, e141_11, e141_19, e141_22, e141_30, e141_33, e141_36, e141_45, e141_48, e141_57, e141_60, e141_63, e141_81, e141_84, e141_88, e141_105, T85, T107, hGe, hn, hwn, hk, h2, h3, h4, zpre, ite_self, zs1, zs2, zs3, zI_eqb, and_self, not_true_eq_false, if_true, if_false, ite_true, ite_false, not_false_eq_true, zBP, zBZ, zisO, zisA, zlen, decide_true, decide_false, Bool.and_self, Bool.and_true, Bool.true_and, cond_true, cond_false, zBG, zBR, zBU, zBV, zinb_n, zix_n, zlA, zlB, zlM, zlN, zlX, zlI, nI_add, Nat.add_eq_zero_iff, false_and, and_false, and_true, true_and, true_or, or_true, false_or, or_false, zbool_i, zb0, zb1, zshp_0, zcs_eq, zcs_n, zcs_cs, zup_g, zup_n, zp2_sun, zp2_rock, zp2_tug, zp2_contract, zp2_window, zp2_code, zp2_rbody, zp2_rstock, zp2_tfree, zp2_thold, zp2_tknown, zp2_ccells, zsh2_sun, zsh2_rock, zsh2_body, zsh2_stock, zsh2_tug, zsh2_free, zsh2_hold, zsh2_known, zsh2_contract, zsh2_window, zsh2_code, zsh2_cells, zg_nsun0, zg_nsun1, zg_nsun2, zg_nrock0, zg_nrock1, zg_nrock2, zg_nrock3, zg_nrock4, zg_nrock5, zg_nrock6, zg_nrock7, zg_nrock8, zg_nrock9, zg_nrock10, zg_nrock11, zg_nrock12, zg_nrock13, zg_nrock14, zg_ntug0, zg_ntug1, zg_ntug2, zg_ntug3, zg_ntug4, zg_ntug5, zg_ntug6, zg_ntug7, zg_ntug8, zg_ntug9, zg_ntug10, zg_ntug11, zg_ntug12, zg_ntug13, zg_ntug14, zg_ntug15, zg_ntug17, zg_ntug18, zg_ntug19, zg_ntug20, zg_ntug21, zg_ntug22, zg_ncon0, zg_ncon1, zg_ncon2, zg_ncon3, zg_ncon4, zg_ncon5, zg_ncon6, zg_nwin0, zg_nwin1, zg_nwin2, zg_nwin3, zg_nwin4, zg_nwin5, zg_ncode0, zg_ncode1, zg_ncode3, zg_nrule, zg_nstock, zg_nhold, zg_nknown, zg_nord, zg_nrep, zg_ncla, zg_ntou, zg_ncel, zu_nsun0, zu_nsun1, zu_nsun2, zu_nrock0, zu_nrock1, zu_nrock2, zu_nrock3, zu_nrock4, zu_nrock5, zu_nrock6, zu_nrock7, zu_nrock8, zu_nrock9, zu_nrock10, zu_nrock11, zu_nrock12, zu_nrock13, zu_nrock14, zu_ntug0, zu_ntug1, zu_ntug2, zu_ntug3, zu_ntug4, zu_ntug5, zu_ntug6, zu_ntug7, zu_ntug8, zu_ntug9, zu_ntug10, zu_ntug11, zu_ntug12, zu_ntug13, zu_ntug14, zu_ntug15, zu_ntug17, zu_ntug18, zu_ntug19, zu_ntug20, zu_ntug21, zu_ntug22, zu_ncon0, zu_ncon1, zu_ncon2, zu_ncon3, zu_ncon4, zu_ncon5, zu_ncon6, zu_nwin0, zu_nwin1, zu_nwin2, zu_nwin3, zu_nwin4, zu_nwin5, zu_ncode3, zu_nrule, zu_nstock, zu_nhold, zu_nknown, zu_nord, zu_nrep, zu_ncla, zu_ntou, zu_ncel]
    refine ⟨_, _, (p0, p2, r2, r3, s4), rfl, ?_⟩
    simp +decide (disch := omega) only [e242_0, e242_5, e242_8, e242_16, e242_19, e242_27, e242_30, e242_39, e242_42, e242_51, e242_54, e242_57, T157, T154, hn, hwn, hk, h2, h3, h4, zpre, ite_self, Nat.reduceAdd, zs1, zs2, zs3, zI_eqb, and_self, not_true_eq_false, if_true, if_false, ite_true, ite_false, not_false_eq_true, zBP, zBZ, zisO, zisA, zlen, decide_true, decide_false, Bool.and_self, Bool.and_true, Bool.true_and, cond_true, cond_false, zBG, zBR, zBU, zBV, zinb_n, zix_n, zlA, zlB, zlM, zlN, zlX, zlI, nI_add, Nat.add_eq_zero_iff, false_and, and_false, and_true, true_and, true_or, or_true, false_or, or_false, zbool_i, zb0, zb1, zshp_0, zcs_eq, zcs_n, zcs_cs, zup_g, zup_n, zg_srock2, zg_stug2, zg_ssun, zg_ssun0, zg_srock, zg_srock0, zg_stug, zg_stug0, zg_sord, zg_sord0, zg_srep, zg_srep0, zg_scla, zg_scla0, zg_scon, zg_scon0, zg_swin, zg_swin0, zg_sleg, zg_sleg0, zg_spro, zg_sstp, zg_swrd, zu_srock2, zu_stug2, zu_ssun, zu_ssun0, zu_srock, zu_srock0, zu_stug, zu_stug0, zu_sord, zu_sord0, zu_srep, zu_srep0, zu_scla, zu_scla0, zu_scon, zu_scon0, zu_swin, zu_swin0, zu_sleg, zu_sleg0, zu_spro, zu_sstp, zu_swrd]
    exact ⟨_, rfl, hR, rfl⟩
  by_cases h5 : 1 ≤ mo ∧ mo ≤ 20000
  case neg =>
    simp +decide (disch := omega) only [e141_0, e141_8, e141_11, e141_19, e141_22, e141_30, e141_33, e141_36, e141_45, e141_48, e141_57, e141_60, e141_63, e141_81, e141_84, e141_88, e141_105, T85, T107, hGe, hn, hwn, hk, h2, h3, h4, h5, zpre, ite_self, zs1, zs2, zs3, zI_eqb, and_self, not_true_eq_false, if_true, if_false, ite_true, ite_false, not_false_eq_true, zBP, zBZ, zisO, zisA, zlen, decide_true, decide_false, Bool.and_self, Bool.and_true, Bool.true_and, cond_true, cond_false, zBG, zBR, zBU, zBV, zinb_n, zix_n, zlA, zlB, zlM, zlN, zlX, zlI, nI_add, Nat.add_eq_zero_iff, false_and, and_false, and_true, true_and, true_or, or_true, false_or, or_false, zbool_i, zb0, zb1, zshp_0, zcs_eq, zcs_n, zcs_cs, zup_g, zup_n, zp2_sun, zp2_rock, zp2_tug, zp2_contract, zp2_window, zp2_code, zp2_rbody, zp2_rstock, zp2_tfree, zp2_thold, zp2_tknown, zp2_ccells, zsh2_sun, zsh2_rock, zsh2_body, zsh2_stock, zsh2_tug, zsh2_free, zsh2_hold, zsh2_known, zsh2_contract, zsh2_window, zsh2_code, zsh2_cells, zg_nsun0, zg_nsun1, zg_nsun2, zg_nrock0, zg_nrock1, zg_nrock2, zg_nrock3, zg_nrock4, zg_nrock5, zg_nrock6, zg_nrock7, zg_nrock8, zg_nrock9, zg_nrock10, zg_nrock11, zg_nrock12, zg_nrock13, zg_nrock14, zg_ntug0, zg_ntug1, zg_ntug2, zg_ntug3, zg_ntug4, zg_ntug5, zg_ntug6, zg_ntug7, zg_ntug8, zg_ntug9, zg_ntug10, zg_ntug11, zg_ntug12, zg_ntug13, zg_ntug14, zg_ntug15, zg_ntug17, zg_ntug18, zg_ntug19, zg_ntug20, zg_ntug21, zg_ntug22, zg_ncon0, zg_ncon1, zg_ncon2, zg_ncon3, zg_ncon4, zg_ncon5, zg_ncon6, zg_nwin0, zg_nwin1, zg_nwin2, zg_nwin3, zg_nwin4, zg_nwin5, zg_ncode0, zg_ncode1, zg_ncode3, zg_nrule, zg_nstock, zg_nhold, zg_nknown, zg_nord, zg_nrep, zg_ncla, zg_ntou, zg_ncel, zu_nsun0, zu_nsun1, zu_nsun2, zu_nrock0, zu_nrock1, zu_nrock2, zu_nrock3, zu_nrock4, zu_nrock5, zu_nrock6, zu_nrock7, zu_nrock8, zu_nrock9, zu_nrock10, zu_nrock11, zu_nrock12, zu_nrock13, zu_nrock14, zu_ntug0, zu_ntug1, zu_ntug2, zu_ntug3, zu_ntug4, zu_ntug5, zu_ntug6, zu_ntug7, zu_ntug8, zu_ntug9, zu_ntug10, zu_ntug11, zu_ntug12, zu_ntug13, zu_ntug14, zu_ntug15, zu_ntug17, zu_ntug18, zu_ntug19, zu_ntug20, zu_ntug21, zu_ntug22, zu_ncon0, zu_ncon1, zu_ncon2, zu_ncon3, zu_ncon4, zu_ncon5, zu_ncon6, zu_nwin0, zu_nwin1, zu_nwin2, zu_nwin3, zu_nwin4, zu_nwin5, zu_ncode3, zu_nrule, zu_nstock, zu_nhold, zu_nknown, zu_nord, zu_nrep, zu_ncla, zu_ntou, zu_ncel]
    refine ⟨_, _, (p0, p2, r2, r3, s4), rfl, ?_⟩
    simp +decide (disch := omega) only [e242_0, e242_5, e242_8, e242_16, e242_19, e242_27, e242_30, e242_39, e242_42, e242_51, e242_54, e242_57, T157, T154, hn, hwn, hk, h2, h3, h4, h5, zpre, ite_self, Nat.reduceAdd, zs1, zs2, zs3, zI_eqb, and_self, not_true_eq_false, if_true, if_false, ite_true, ite_false, not_false_eq_true, zBP, zBZ, zisO, zisA, zlen, decide_true, decide_false, Bool.and_self, Bool.and_true, Bool.true_and, cond_true, cond_false, zBG, zBR, zBU, zBV, zinb_n, zix_n, zlA, zlB, zlM, zlN, zlX, zlI, nI_add, Nat.add_eq_zero_iff, false_and, and_false, and_true, true_and, true_or, or_true, false_or, or_false, zbool_i, zb0, zb1, zshp_0, zcs_eq, zcs_n, zcs_cs, zup_g, zup_n, zg_srock2, zg_stug2, zg_ssun, zg_ssun0, zg_srock, zg_srock0, zg_stug, zg_stug0, zg_sord, zg_sord0, zg_srep, zg_srep0, zg_scla, zg_scla0, zg_scon, zg_scon0, zg_swin, zg_swin0, zg_sleg, zg_sleg0, zg_spro, zg_sstp, zg_swrd, zu_srock2, zu_stug2, zu_ssun, zu_ssun0, zu_srock, zu_srock0, zu_stug, zu_stug0, zu_sord, zu_sord0, zu_srep, zu_srep0, zu_scla, zu_scla0, zu_scon, zu_scon0, zu_swin, zu_swin0, zu_sleg, zu_sleg0, zu_spro, zu_sstp, zu_swrd]
    exact ⟨_, rfl, hR, rfl⟩
  obtain ⟨dy, hdy, rfl⟩ := zrng (n := 999) h2 (by decide)
  obtain ⟨fu, hfu, rfl⟩ := zrng (n := 999) h3 (by decide)
  obtain ⟨e, he, rfl⟩ := zrng (n := 2000) ⟨Int32.le_trans (nI_pos' (by omega)) h4.1, h4.2⟩ (by decide)
  obtain ⟨mo, hmo, rfl⟩ := zrng (n := 20000) ⟨Int32.le_trans (by decide) h5.1, h5.2⟩ (by decide)
  obtain ⟨rt, hrt, hrte⟩ := hG.2.2.2.2.1
  obtain ⟨wd, hwd⟩ : ∃ wd : Nat → Nat → Nat, wd = fun k f => zix (C 48 k f) := ⟨_, rfl⟩
  have hWk : ∀ k, k < wn → (∀ f, f < 6 → C 8 k f = nI (wd k f) ∧ C 48 k f = nI (wd k f)) ∧ wd k 0 < n ∧ wd k 1 < n ∧ wd k 2 ≤ 999 ∧ wd k 3 ≤ 999 ∧ wd k 4 ≤ 999 ∧ wd k 5 ≤ 200 := by
    intro k hk
    obtain ⟨w1, ⟨r0, hr0, e0⟩, ⟨r1, hr1', e1⟩, ⟨a2, ha2, e2⟩, ⟨a3, ha3, e3⟩, ⟨a4, ha4, e4⟩, ⟨a5, ha5, e5⟩⟩ := hW k (by rw [hwn, zix_n (by omega)]; exact hk)
    rw [hn, zix_n (by omega)] at hr0 hr1'
    have v : ∀ f, f < 6 → C 48 k f = nI (wd k f) := by
      intro f hf
      rw [hwd]
      rcases (show f = 0 ∨ f = 1 ∨ f = 2 ∨ f = 3 ∨ f = 4 ∨ f = 5 by omega) with rfl | rfl | rfl | rfl | rfl | rfl
      · show C 48 k 0 = nI (zix (C 48 k 0)); rw [e0, zix_n (by omega)]
      · show C 48 k 1 = nI (zix (C 48 k 1)); rw [e1, zix_n (by omega)]
      · show C 48 k 2 = nI (zix (C 48 k 2)); rw [e2, zix_n (by omega)]
      · show C 48 k 3 = nI (zix (C 48 k 3)); rw [e3, zix_n (by omega)]
      · show C 48 k 4 = nI (zix (C 48 k 4)); rw [e4, zix_n (by omega)]
      · show C 48 k 5 = nI (zix (C 48 k 5)); rw [e5, zix_n (by omega)]
    refine ⟨fun f hf => ⟨by rw [w1 f hf]; exact v f hf, v f hf⟩, ?_, ?_, ?_, ?_, ?_, ?_⟩ <;> rw [hwd]
    · show zix (C 48 k 0) < n; rw [e0, zix_n (by omega)]; exact hr0
    · show zix (C 48 k 1) < n; rw [e1, zix_n (by omega)]; exact hr1'
    · show zix (C 48 k 2) ≤ 999; rw [e2, zix_n (by omega)]; exact ha2
    · show zix (C 48 k 3) ≤ 999; rw [e3, zix_n (by omega)]; exact ha3
    · show zix (C 48 k 4) ≤ 999; rw [e4, zix_n (by omega)]; exact ha4
    · show zix (C 48 k 5) ≤ 200; rw [e5, zix_n (by omega)]; exact ha5
  have hDw : zDw wd rt wn n e := ⟨hwn8, hn8, hrt, he, fun k hk => (hWk k hk).2⟩
  have hDt : zDt C wd (C 42) rt wn n := ⟨hGe.2.2.2.2.2.2.2.2.2.2.2.1.trans hwn, hGe.2.2.2.1.trans hrte, fun k hk f hf => ((hWk k hk).1 f hf).1, fun r' hr' => by
    have q := (hRR r' (by rw [hn, zix_n (by omega)]; exact hr')).1
    exact ⟨q 0 (by decide) (by decide), q 9 (by decide) (by decide)⟩⟩
  obtain ⟨C1, a1, a2, a3⟩ := T67 (d + 87) L p0 p2 r2 r3 s4 wd (C 42) rt e wn n r dy fu mo C hDw hr (by omega) hfu hmo hDt (fun _ _ => 0) (fun _ _ => 0)
  have hDm : zDm C1 wd (C 42) rt wn n := by
    unfold zDm
    rw [a2 40 (by decide), a2 48 (by decide), a2 42 (by decide)]
    exact ⟨hwn, hrte, fun k hk f hf => ((hWk k hk).1 f hf).2, fun _ _ => ⟨rfl, rfl⟩⟩
  obtain ⟨s', hs'⟩ : ∃ s', s' = zsch wd (C 42) rt e wn 6 0 r dy fu 0 ((1 : Int32) <<< (nI r &&& 31)) (fun _ _ => 0) (mo, false, 0, dy, 0, fun _ _ => 0) := ⟨_, rfl⟩
  rw [← hs'] at a1 a3
  have hmod : ∀ Cm : zCt, Cm 40 = C 40 → Cm 48 = C 48 → Cm 42 = C 42 → ∀ s4 : Nat, ∃ Cx, ((∀ g, ¬ (g = 401 ∨ 412 ≤ g ∧ g ≤ 418) → Cx g = Cm g) ∧ (∀ f, f < 33 ∨ 35 < f → Cx 401 0 f = Cm 401 0 f)) ∧ ((s'.2.1 = true ∧ zR (d + 100) 242 0 [.ref 201, .int (nI r), .int (nI dy), .int (nI fu), .int (nI e), .int (nI mo), zmk, zmk, zmk] [] (zZ L, zI Cm, zPd p0 p2 r2 r3 s4) = some (some (.int (-1000000004)), (zZ L, zI Cx, zPd p0 p2 r2 r3 s4))) ∨ (s'.2.1 = false ∧ zR (d + 100) 242 0 [.ref 201, .int (nI r), .int (nI dy), .int (nI fu), .int (nI e), .int (nI mo), zmk, zmk, zmk] [] (zZ L, zI Cm, zPd p0 p2 r2 r3 s4) = some (some (.int s'.2.2.1), (zZ L, zI (zcs (zcs Cx 40 (zup (zup (C 40) 0 12 1) 0 13 (nI s'.2.2.2.2.1))) 49 (zlgF (Cm 49) (Cx 418 0) 0 (4 * s'.2.2.2.2.1))), zPd p0 p2 r2 r3 s4)) ∧ s'.2.2.2.2.1 ≤ 6 ∧ (∀ i, i < s'.2.2.2.2.1 → ∀ f, f < 4 → Cx 418 0 (4 * i + f) = s'.2.2.2.2.2 i f))) := by
    intro Cm e40 e48 e42 s4
    have hDm' : zDm Cm wd (C 42) rt wn n := by
      unfold zDm
      rw [e40, e48, e42]
      exact ⟨hwn, hrte, fun k hk f hf => ((hWk k hk).1 f hf).2, fun _ _ => ⟨rfl, rfl⟩⟩
    obtain ⟨C3, hC3⟩ : ∃ C3, C3 = zcs (zcs (zcs (zcs (zcs Cm 401 (zup (Cm 401) 0 33 (-1))) 412 (zup (Cm 412) 0 0 (nI r))) 413 (zup (Cm 413) 0 0 (nI dy))) 414 (zup (Cm 414) 0 0 (nI fu))) 417 (zup (Cm 417) 0 0 0) := ⟨_, rfl⟩
    have hz := T243z (d + 98) L p0 p2 r2 r3 s4 n dy C3 (C 42) (fun _ => r) (fun _ _ => 0) hn8 (fun j hj => by
      rw [hC3]
      simp (disch := omega) only [zcs_eq, zcs_n]
      rw [show j = 0 by omega, zup_g]; exact ⟨hr, rfl⟩) (fun q hq => by
      rw [hC3]
      simp (disch := omega) only [zcs_n]
      rw [e42]) (by rw [hC3]; simp (disch := omega) only [zcs_eq, zcs_n, zup_g]) (by rw [hC3]; simp (disch := omega) only [zcs_eq, zcs_n, zup_g])
    obtain ⟨C4, hC4⟩ : ∃ C4, C4 = zcs C3 401 (zup (zup (zup (C3 401) 0 33 0) 0 34 0) 0 35 (nI dy)) := ⟨_, rfl⟩
    rw [← hC4] at hz
    have o4 : ∀ g, ¬ (g = 401 ∨ 412 ≤ g ∧ g ≤ 418) → C4 g = Cm g := fun g hg => by
      rw [hC4, zcs_n _ _ (by omega), hC3, zcs_n _ _ (by omega), zcs_n _ _ (by omega), zcs_n _ _ (by omega), zcs_n _ _ (by omega), zcs_n _ _ (by omega)]
    have hM4 : zMk C4 0 (fun _ => r) (fun _ _ => 0) dy fu (mo, false, 0, dy, 0, fun _ _ => 0) := by
      unfold zMk
      rw [hC4, hC3]
      simp (disch := omega) only [zcs_eq, zcs_n, zup_g, zup_n]
      exact ⟨⟨rfl, trivial, trivial⟩, fun j hj => by rw [show j = 0 by omega, zup_g], trivial, trivial, fun j hj => absurd hj (by omega), fun i hi => absurd hi (by omega), by omega, by omega, hmo⟩
    have hDm4 : zDm C4 wd (C 42) rt wn n := by
      unfold zDm
      rw [o4 40 (by decide), o4 48 (by decide), o4 42 (by decide)]
      exact hDm'
    obtain ⟨Cx, f1, f2⟩ := T242_102 (d + 96) L p0 p2 r2 r3 s4 (nI r) (nI dy) (nI fu) (nI mo) wd (C 42) rt e wn n hDw 6 0 dy fu (fun _ => r) (fun _ _ => 0) (mo, false, 0, dy, 0, fun _ _ => 0) C4 zmk (by omega) rfl (fun _ _ => hr) (by omega) hfu hDm4 hM4 (by rw [hC4, hC3]; simp (disch := omega) only [zcs_eq, zcs_n, zup_g]; rfl)
    rw [show (zwo (C 42) (fun _ => r) 0).1 = 0 from rfl, show (zwo (C 42) (fun _ => r) 0).2 = (1 : Int32) <<< (nI r &&& 31) from rfl, ← hs', zn0] at f2
    have hfm : (∀ g, ¬ (g = 401 ∨ 412 ≤ g ∧ g ≤ 418) → Cx g = Cm g) ∧ (∀ f, f < 33 ∨ 35 < f → Cx 401 0 f = Cm 401 0 f) := by
      refine ⟨fun g hg => by rw [f1.1 g hg, o4 g hg], fun f hf => ?_⟩
      rw [f1.2.1 f hf, hC4, zcs_eq, hC3]
      simp (disch := omega) only [zcs_eq, zcs_n, zup_n]
    have hm1 : (0 : Int32) + (-1) = -1 := by decide
    have hk5 : Cm 40 0 5 = nI n := by rw [e40]; exact hn
    rw [hC3] at hz
    rcases f2 with ⟨g1, g2⟩ | ⟨g1, v, g2, g3⟩
    · refine ⟨Cx, hfm, Or.inl ⟨g1, ?_⟩⟩
      simp +decide (disch := omega) only [e242_0, e242_5, e242_8, e242_16, e242_19, e242_27, e242_30, e242_39, e242_42, e242_51, e242_54, e242_57, T157, T154, hk5, hk, h2, h3, h4, h5, hz, g2, zpre, ite_self, Nat.reduceAdd, zs1, zs2, zs3, zI_eqb, and_self, not_true_eq_false, if_true, if_false, ite_true, ite_false, not_false_eq_true, zBP, zBZ, zisO, zisA, zlen, decide_true, decide_false, Bool.and_self, Bool.and_true, Bool.true_and, cond_true, cond_false, zBG, zBR, zBU, zBV, zinb_n, zix_n, zlA, zlB, zlM, zlN, zlX, zlI, nI_add, Nat.add_eq_zero_iff, false_and, and_false, and_true, true_and, true_or, or_true, false_or, or_false, zbool_i, zb0, zb1, zshp_0, zcs_eq, zcs_n, zcs_cs, zup_g, zup_n, zg_srock2, zg_stug2, zg_ssun, zg_ssun0, zg_srock, zg_srock0, zg_stug, zg_stug0, zg_sord, zg_sord0, zg_srep, zg_srep0, zg_scla, zg_scla0, zg_scon, zg_scon0, zg_swin, zg_swin0, zg_sleg, zg_sleg0, zg_spro, zg_sstp, zg_swrd, zu_srock2, zu_stug2, zu_ssun, zu_ssun0, zu_srock, zu_srock0, zu_stug, zu_stug0, zu_sord, zu_sord0, zu_srep, zu_srep0, zu_scla, zu_scla0, zu_scon, zu_scon0, zu_swin, zu_swin0, zu_sleg, zu_sleg0, zu_spro, zu_sstp, zu_swrd]
    · obtain ⟨⟨j1, j2, j3⟩, _, _, _, _, j4, j5, _⟩ := g3
      refine ⟨Cx, hfm, Or.inr ⟨g1, ?_, j5, j4⟩⟩
      have x40 : Cx 40 = C 40 := by rw [hfm.1 40 (by decide), e40]
      have h227 := T242_227 (d + 100) L p0 p2 r2 r3 s4 s'.2.2.2.2.1 s'.2.2.1 (nI r) (nI dy) (nI fu) (nI e) (nI mo) (nI s'.1) (-1) j5 (4 * s'.2.2.2.2.1) 0 (zcs Cx 40 (zup (zup (C 40) 0 12 1) 0 13 (nI s'.2.2.2.2.1))) (by rw [zcs_n _ _ (by decide)]; exact j1) (by rw [zcs_n _ _ (by decide)]; exact j2) (by omega)
      rw [zn0, zcs_n _ _ (by decide : (49 : Nat) ≠ 40), zcs_n _ _ (by decide : (418 : Nat) ≠ 40), hfm.1 49 (by decide)] at h227
      have hend : zR (d + 100) 242 131 [.ref 201, .int (nI r), .int (nI dy), .int (nI fu), .int (nI e), .int (nI mo), .int (nI s'.1), .int 0, v] [] (zZ L, zI Cx, zPd p0 p2 r2 r3 s4) = some (some (.int s'.2.2.1), (zZ L, zI (zcs (zcs Cx 40 (zup (zup (C 40) 0 12 1) 0 13 (nI s'.2.2.2.2.1))) 49 (zlgF (Cm 49) (Cx 418 0) 0 (4 * s'.2.2.2.2.1))), zPd p0 p2 r2 r3 s4)) := by
        rw [e242_131, hm1, e242_102, if_pos (by decide), e242_205, ← h227]
        simp +decide (disch := omega) only [x40, j1, zpre, ite_self, Nat.reduceAdd, zs1, zs2, zs3, zI_eqb, and_self, not_true_eq_false, if_true, if_false, ite_true, ite_false, not_false_eq_true, zBP, zBZ, zisO, zisA, zlen, decide_true, decide_false, Bool.and_self, Bool.and_true, Bool.true_and, cond_true, cond_false, zBG, zBR, zBU, zBV, zinb_n, zix_n, zlA, zlB, zlM, zlN, zlX, zlI, nI_add, Nat.add_eq_zero_iff, false_and, and_false, and_true, true_and, true_or, or_true, false_or, or_false, zbool_i, zb0, zb1, zshp_0, zcs_eq, zcs_n, zcs_cs, zup_g, zup_n, zg_srock2, zg_stug2, zg_ssun, zg_ssun0, zg_srock, zg_srock0, zg_stug, zg_stug0, zg_sord, zg_sord0, zg_srep, zg_srep0, zg_scla, zg_scla0, zg_scon, zg_scon0, zg_swin, zg_swin0, zg_sleg, zg_sleg0, zg_spro, zg_sstp, zg_swrd, zu_srock2, zu_stug2, zu_ssun, zu_ssun0, zu_srock, zu_srock0, zu_stug, zu_stug0, zu_sord, zu_sord0, zu_srep, zu_srep0, zu_scla, zu_scla0, zu_scon, zu_scon0, zu_swin, zu_swin0, zu_sleg, zu_sleg0, zu_spro, zu_sstp, zu_swrd]
      rw [hend] at g2
      simp +decide (disch := omega) only [e242_0, e242_5, e242_8, e242_16, e242_19, e242_27, e242_30, e242_39, e242_42, e242_51, e242_54, e242_57, T157, T154, hk5, hk, h2, h3, h4, h5, hz, g2, zpre, ite_self, Nat.reduceAdd, zs1, zs2, zs3, zI_eqb, and_self, not_true_eq_false, if_true, if_false, ite_true, ite_false, not_false_eq_true, zBP, zBZ, zisO, zisA, zlen, decide_true, decide_false, Bool.and_self, Bool.and_true, Bool.true_and, cond_true, cond_false, zBG, zBR, zBU, zBV, zinb_n, zix_n, zlA, zlB, zlM, zlN, zlX, zlI, nI_add, Nat.add_eq_zero_iff, false_and, and_false, and_true, true_and, true_or, or_true, false_or, or_false, zbool_i, zb0, zb1, zshp_0, zcs_eq, zcs_n, zcs_cs, zup_g, zup_n, zg_srock2, zg_stug2, zg_ssun, zg_ssun0, zg_srock, zg_srock0, zg_stug, zg_stug0, zg_sord, zg_sord0, zg_srep, zg_srep0, zg_scla, zg_scla0, zg_scon, zg_scon0, zg_swin, zg_swin0, zg_sleg, zg_sleg0, zg_spro, zg_sstp, zg_swrd, zu_srock2, zu_stug2, zu_ssun, zu_ssun0, zu_srock, zu_srock0, zu_stug, zu_stug0, zu_sord, zu_sord0, zu_srep, zu_srep0, zu_scla, zu_scla0, zu_scon, zu_scon0, zu_swin, zu_swin0, zu_sleg, zu_sleg0, zu_spro, zu_sstp, zu_swrd]
  have c394 := a3.1
  have b5 : s'.2.2.2.2.1 ≤ 6 := a3.2.2.2.1
  cases hb : s'.2.1 with
  | true =>
    rw [hb, if_pos rfl] at a1
    obtain ⟨Cx, ⟨x1, x2⟩, hx⟩ := hmod C1 (a2 _ (by decide)) (a2 _ (by decide)) (a2 _ (by decide)) 2
    rcases hx with ⟨_, hx⟩ | ⟨hx, _⟩
    · refine ⟨-1000000004, C1, (p0, p2, r2, r3, 2), ?_, Cx, hx, ?_, ?_⟩
      · simp +decide (disch := omega) only [e141_0, e141_8, e141_11, e141_19, e141_22, e141_30, e141_33, e141_36, e141_45, e141_48, e141_57, e141_60, e141_63, e141_81, e141_84, e141_88, e141_105, T85, T107, hGe, hn, hk, h2, h3, h4, h5, a1, zpre, ite_self, zs1, zs2, zs3, zI_eqb, and_self, not_true_eq_false, if_true, if_false, ite_true, ite_false, not_false_eq_true, zBP, zBZ, zisO, zisA, zlen, decide_true, decide_false, Bool.and_self, Bool.and_true, Bool.true_and, cond_true, cond_false, zBG, zBR, zBU, zBV, zinb_n, zix_n, zlA, zlB, zlM, zlN, zlX, zlI, nI_add, Nat.add_eq_zero_iff, false_and, and_false, and_true, true_and, true_or, or_true, false_or, or_false, zbool_i, zb0, zb1, zshp_0, zcs_eq, zcs_n, zcs_cs, zup_g, zup_n, zp2_sun, zp2_rock, zp2_tug, zp2_contract, zp2_window, zp2_code, zp2_rbody, zp2_rstock, zp2_tfree, zp2_thold, zp2_tknown, zp2_ccells, zsh2_sun, zsh2_rock, zsh2_body, zsh2_stock, zsh2_tug, zsh2_free, zsh2_hold, zsh2_known, zsh2_contract, zsh2_window, zsh2_code, zsh2_cells, zg_nsun0, zg_nsun1, zg_nsun2, zg_nrock0, zg_nrock1, zg_nrock2, zg_nrock3, zg_nrock4, zg_nrock5, zg_nrock6, zg_nrock7, zg_nrock8, zg_nrock9, zg_nrock10, zg_nrock11, zg_nrock12, zg_nrock13, zg_nrock14, zg_ntug0, zg_ntug1, zg_ntug2, zg_ntug3, zg_ntug4, zg_ntug5, zg_ntug6, zg_ntug7, zg_ntug8, zg_ntug9, zg_ntug10, zg_ntug11, zg_ntug12, zg_ntug13, zg_ntug14, zg_ntug15, zg_ntug17, zg_ntug18, zg_ntug19, zg_ntug20, zg_ntug21, zg_ntug22, zg_ncon0, zg_ncon1, zg_ncon2, zg_ncon3, zg_ncon4, zg_ncon5, zg_ncon6, zg_nwin0, zg_nwin1, zg_nwin2, zg_nwin3, zg_nwin4, zg_nwin5, zg_ncode0, zg_ncode1, zg_ncode3, zg_nrule, zg_nstock, zg_nhold, zg_nknown, zg_nord, zg_nrep, zg_ncla, zg_ntou, zg_ncel, zu_nsun0, zu_nsun1, zu_nsun2, zu_nrock0, zu_nrock1, zu_nrock2, zu_nrock3, zu_nrock4, zu_nrock5, zu_nrock6, zu_nrock7, zu_nrock8, zu_nrock9, zu_nrock10, zu_nrock11, zu_nrock12, zu_nrock13, zu_nrock14, zu_ntug0, zu_ntug1, zu_ntug2, zu_ntug3, zu_ntug4, zu_ntug5, zu_ntug6, zu_ntug7, zu_ntug8, zu_ntug9, zu_ntug10, zu_ntug11, zu_ntug12, zu_ntug13, zu_ntug14, zu_ntug15, zu_ntug17, zu_ntug18, zu_ntug19, zu_ntug20, zu_ntug21, zu_ntug22, zu_ncon0, zu_ncon1, zu_ncon2, zu_ncon3, zu_ncon4, zu_ncon5, zu_ncon6, zu_nwin0, zu_nwin1, zu_nwin2, zu_nwin3, zu_nwin4, zu_nwin5, zu_ncode3, zu_nrule, zu_nstock, zu_nhold, zu_nknown, zu_nord, zu_nrep, zu_ncla, zu_ntou, zu_ncel]
      · unfold zRep zWR
        simp (disch := omega) only [x1, x2]
        unfold zFr at a2
        simp (disch := omega) only [a2]
        exact hR
      · rw [x1 _ (by decide), a2 _ (by decide)]
    · rw [hb] at hx; exact absurd hx (by decide)
  | false =>
    rw [hb, if_neg Bool.false_ne_true] at a1
    have h46 := T46e (d + 99) L p0 p2 r2 r3 2 C1 zmk b5 c394.2.2.2.2.2.2.2
    obtain ⟨Cc, hCc⟩ : ∃ Cc, Cc = zcs (zcs (zcs C1 0 (zup (C1 0) 0 13 (nI s'.2.2.2.2.1))) 9 (fun i f => if 4 * i + f < s'.2.2.2.2.1 * 4 then C1 398 0 (4 * i + f) else C1 9 i f)) 0 (zup (zup (C1 0) 0 13 (nI s'.2.2.2.2.1)) 0 12 1) := ⟨_, rfl⟩
    have oc : ∀ g, g ≠ 0 → g ≠ 9 → Cc g = C1 g := fun g e1 e2 => by rw [hCc, zcs_n _ _ e1, zcs_n _ _ e2, zcs_n _ _ e1]
    obtain ⟨Cx, ⟨x1, x2⟩, hx⟩ := hmod Cc (by rw [oc _ (by decide) (by decide), a2 _ (by decide)]) (by rw [oc _ (by decide) (by decide), a2 _ (by decide)]) (by rw [oc _ (by decide) (by decide), a2 _ (by decide)]) 2
    rcases hx with ⟨hx, _⟩ | ⟨_, hx, b6, xl⟩
    · rw [hb] at hx; exact absurd hx (by decide)
    have fc : ∀ g, ¬ (394 ≤ g ∧ g ≤ 398) → C1 g = C g := a2
    have z0 : Cc 0 = zup (zup (C 0) 0 13 (nI s'.2.2.2.2.1)) 0 12 1 := by rw [hCc, zcs_eq, fc 0 (by decide)]
    have z9 : ∀ i, i < s'.2.2.2.2.1 → ∀ f, f < 4 → Cc 9 i f = s'.2.2.2.2.2 i f := by
      intro i hi f hf
      rw [hCc, zcs_n _ _ (by decide), zcs_eq]
      show (if 4 * i + f < s'.2.2.2.2.1 * 4 then C1 398 0 (4 * i + f) else C1 9 i f) = _
      rw [if_pos (by omega), show 4 * i + f = i * 4 + f by omega]
      exact a3.2.2.1 i hi f hf
    refine ⟨s'.2.2.1, Cc, (p0, p2, r2, r3, 2), ?_, zcs (zcs Cx 40 (zup (zup (C 40) 0 12 1) 0 13 (nI s'.2.2.2.2.1))) 49 (zlgF (Cc 49) (Cx 418 0) 0 (4 * s'.2.2.2.2.1)), hx, ?_, ?_⟩
    · rw [hCc]
      have c2 := c394.1
      simp +decide (disch := omega) only [e141_0, e141_8, e141_11, e141_19, e141_22, e141_30, e141_33, e141_36, e141_45, e141_48, e141_57, e141_60, e141_63, e141_81, e141_84, e141_88, e141_105, T85, T107, hGe, hn, hk, h2, h3, h4, h5, a1, h46, c2, zpre, ite_self, zs1, zs2, zs3, zI_eqb, and_self, not_true_eq_false, if_true, if_false, ite_true, ite_false, not_false_eq_true, zBP, zBZ, zisO, zisA, zlen, decide_true, decide_false, Bool.and_self, Bool.and_true, Bool.true_and, cond_true, cond_false, zBG, zBR, zBU, zBV, zinb_n, zix_n, zlA, zlB, zlM, zlN, zlX, zlI, nI_add, Nat.add_eq_zero_iff, false_and, and_false, and_true, true_and, true_or, or_true, false_or, or_false, zbool_i, zb0, zb1, zshp_0, zcs_eq, zcs_n, zcs_cs, zup_g, zup_n, zp2_sun, zp2_rock, zp2_tug, zp2_contract, zp2_window, zp2_code, zp2_rbody, zp2_rstock, zp2_tfree, zp2_thold, zp2_tknown, zp2_ccells, zsh2_sun, zsh2_rock, zsh2_body, zsh2_stock, zsh2_tug, zsh2_free, zsh2_hold, zsh2_known, zsh2_contract, zsh2_window, zsh2_code, zsh2_cells, zg_nsun0, zg_nsun1, zg_nsun2, zg_nrock0, zg_nrock1, zg_nrock2, zg_nrock3, zg_nrock4, zg_nrock5, zg_nrock6, zg_nrock7, zg_nrock8, zg_nrock9, zg_nrock10, zg_nrock11, zg_nrock12, zg_nrock13, zg_nrock14, zg_ntug0, zg_ntug1, zg_ntug2, zg_ntug3, zg_ntug4, zg_ntug5, zg_ntug6, zg_ntug7, zg_ntug8, zg_ntug9, zg_ntug10, zg_ntug11, zg_ntug12, zg_ntug13, zg_ntug14, zg_ntug15, zg_ntug17, zg_ntug18, zg_ntug19, zg_ntug20, zg_ntug21, zg_ntug22, zg_ncon0, zg_ncon1, zg_ncon2, zg_ncon3, zg_ncon4, zg_ncon5, zg_ncon6, zg_nwin0, zg_nwin1, zg_nwin2, zg_nwin3, zg_nwin4, zg_nwin5, zg_ncode0, zg_ncode1, zg_ncode3, zg_nrule, zg_nstock, zg_nhold, zg_nknown, zg_nord, zg_nrep, zg_ncla, zg_ntou, zg_ncel, zu_nsun0, zu_nsun1, zu_nsun2, zu_nrock0, zu_nrock1, zu_nrock2, zu_nrock3, zu_nrock4, zu_nrock5, zu_nrock6, zu_nrock7, zu_nrock8, zu_nrock9, zu_nrock10, zu_nrock11, zu_nrock12, zu_nrock13, zu_nrock14, zu_ntug0, zu_ntug1, zu_ntug2, zu_ntug3, zu_ntug4, zu_ntug5, zu_ntug6, zu_ntug7, zu_ntug8, zu_ntug9, zu_ntug10, zu_ntug11, zu_ntug12, zu_ntug13, zu_ntug14, zu_ntug15, zu_ntug17, zu_ntug18, zu_ntug19, zu_ntug20, zu_ntug21, zu_ntug22, zu_ncon0, zu_ncon1, zu_ncon2, zu_ncon3, zu_ncon4, zu_ncon5, zu_ncon6, zu_nwin0, zu_nwin1, zu_nwin2, zu_nwin3, zu_nwin4, zu_nwin5, zu_ncode3, zu_nrule, zu_nstock, zu_nhold, zu_nknown, zu_nord, zu_nrep, zu_ncla, zu_ntou, zu_ncel]
    · unfold zRep zWR
      simp (disch := omega) only [zcs_eq, zcs_n, x1, x2, oc, fc, z0, zup_n]
      refine ⟨⟨w, ?_, hS, hRR, hT, hO, hE, hC, hK, hW, ?_, ?_⟩, hX⟩
      · have q := zRG_u12 (zRG_u13 hG (v := nI s'.2.2.2.2.1) ⟨_, b5, rfl⟩) (v := 1) (Or.inr rfl)
        have hup : zup (zup (C 40) 0 13 (nI s'.2.2.2.2.1)) 0 12 1 = zup (zup (C 40) 0 12 1) 0 13 (nI s'.2.2.2.2.1) := by
          funext i f
          unfold zup
          by_cases e1 : i = 0 ∧ f = 12
          · rw [if_pos e1, if_neg (by omega), if_pos e1]
          · rw [if_neg e1, if_neg e1]
        rw [hup] at q
        exact q
      · intro i hi f hf
        rw [zup_g, zix_n (by omega)] at hi
        rw [z9 i hi f hf]
        unfold zlgF
        rw [if_pos ⟨hf, by omega, by omega⟩]
        exact (xl i hi f hf).symm
      · exact hP
    · rw [zcs_n _ _ (by decide), zcs_n _ _ (by decide), x1 _ (by decide), oc _ (by decide) (by decide), fc _ (by decide)]
