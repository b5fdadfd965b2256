/-! ORDERS, REPORTS AND CLAIMS COME, printed by wip/gen/pub27.py -/
theorem e205_4v (d : Nat) (Z : List (Nat × Nat)) (I : Nat → Nat → Int32) (P : Nat → Nat → Nat) (r0 : Nat) (x1 x2 : Int32) (v3 : Value) (v4 : Value) : zR d 205 4 [.ref r0, .int x1, .int x2, v3, v4] [] (Z, I, P) = bif ((zisO Z r0 12 && decide (¬ P r0 0 = 0)) && ((zisA Z (P r0 0) 1 && zinb 7 (zlen Z (P r0 0))) && (true))) then (if (I (P r0 0) (zix 7)) ≤ x2 then zR d 205 163 [.ref r0, .int x1, .int x2, v3, v4] [] (Z, I, P) else zR d 205 15 [.ref r0, .int x1, .int x2, v3, v4] [] (Z, I, P)) else none := zE_br (g := ((zisO Z r0 12 && decide (¬ P r0 0 = 0)) && ((zisA Z (P r0 0) 1 && zinb 7 (zlen Z (P r0 0))) && (true)))) (p := (I (P r0 0) (zix 7)) ≤ x2) (t := 163) (f := 15) zK205 rfl zi205 4 6 rfl
theorem e206_4v (d : Nat) (Z : List (Nat × Nat)) (I : Nat → Nat → Int32) (P : Nat → Nat → Nat) (r0 : Nat) (x1 x2 : Int32) (v5 : Value) (v3 : Value) (v4 : Value) : zR d 206 4 [.ref r0, .int x1, .int x2, v3, v4, v5] [] (Z, I, P) = bif ((zisO Z r0 12 && decide (¬ P r0 0 = 0)) && ((zisA Z (P r0 0) 1 && zinb 8 (zlen Z (P r0 0))) && (true))) then (if (I (P r0 0) (zix 8)) ≤ x2 then zR d 206 198 [.ref r0, .int x1, .int x2, v3, v4, v5] [] (Z, I, P) else zR d 206 15 [.ref r0, .int x1, .int x2, v3, v4, v5] [] (Z, I, P)) else none := zE_br (g := ((zisO Z r0 12 && decide (¬ P r0 0 = 0)) && ((zisA Z (P r0 0) 1 && zinb 8 (zlen Z (P r0 0))) && (true)))) (p := (I (P r0 0) (zix 8)) ≤ x2) (t := 198) (f := 15) zK206 rfl zi206 4 6 rfl
theorem e207_4v (d : Nat) (Z : List (Nat × Nat)) (I : Nat → Nat → Int32) (P : Nat → Nat → Nat) (r0 : Nat) (x1 x2 : Int32) (v3 : Value) (v4 : Value) : zR d 207 4 [.ref r0, .int x1, .int x2, v3, v4] [] (Z, I, P) = bif ((zisO Z r0 12 && decide (¬ P r0 0 = 0)) && ((zisA Z (P r0 0) 1 && zinb 9 (zlen Z (P r0 0))) && (true))) then (if (I (P r0 0) (zix 9)) ≤ x2 then zR d 207 144 [.ref r0, .int x1, .int x2, v3, v4] [] (Z, I, P) else zR d 207 15 [.ref r0, .int x1, .int x2, v3, v4] [] (Z, I, P)) else none := zE_br (g := ((zisO Z r0 12 && decide (¬ P r0 0 = 0)) && ((zisA Z (P r0 0) 1 && zinb 9 (zlen Z (P r0 0))) && (true)))) (p := (I (P r0 0) (zix 9)) ≤ x2) (t := 144) (f := 15) zK207 rfl zi207 4 6 rfl
theorem zli8 : (6 : Int32) + 1 = 7 ∧ (7 : Int32) + 1 = 8 := by decide
theorem zl2p : (2 : Int32) + 0 = 2 ∧ (2 : Int32) + 1 = 3 ∧ (2 : Int32) + 2 = 4 ∧ (2 : Int32) + 3 = 5 ∧ (2 : Int32) + 4 = 6 ∧ (2 : Int32) + 5 = 7 := by decide
/-- row l is row k, columns below w -/
def zcr (a : zGp) (w l k : Nat) : zGp := fun i f => if i = l ∧ f < w then a k f else a i f
def zdu (w : Nat) (td : Int32) : Nat → Nat → Nat → zGp → zGp × Nat
  | 0, _, l, a => (a, l)
  | m + 1, k, l, a => if a k (w - 1) ≤ td then zdu w td m (k + 1) l a else zdu w td m (k + 1) (l + 1) (zcr a w l k)
def zqe (E : Nat → zGp → zGp) (due : Nat → Int32) (td : Int32) : Nat → Nat → zGp → zGp
  | 0, _, T => T
  | m + 1, k, T => if due k ≤ td then zqe E due td m (k + 1) (E k T) else zqe E due td m (k + 1) T
theorem zdu_R {R : (Nat → Int32) → (Nat → Int32) → Prop} {w n : Nat} (td : Int32) (hw : 0 < w) (hR : ∀ a b a' b', (∀ f, f < w → a' f = a f) → (∀ f, f < w → b' f = b f) → R a b → R a' b') (hd : ∀ a b, R a b → a (w - 1) = b (w - 1)) : ∀ (m k l : Nat) (A B : zGp), k + m = n → l ≤ k → (∀ i, i < n → R (A i) (B i)) → (zdu w td m k l A).2 = (zdu w td m k l B).2 ∧ (zdu w td m k l B).2 ≤ n ∧ ∀ i, i < n → R ((zdu w td m k l A).1 i) ((zdu w td m k l B).1 i) := by
  intro m
  induction m with
  | zero => intro k l A B hk hl h; exact ⟨rfl, by show l ≤ n; omega, h⟩
  | succ m ih =>
    intro k l A B hk hl h
    unfold zdu
    rw [hd _ _ (h k (by omega))]
    by_cases e : B k (w - 1) ≤ td
    · rw [if_pos e, if_pos e]; exact ih (k + 1) l A B (by omega) (by omega) h
    · rw [if_neg e, if_neg e]
      refine ih (k + 1) (l + 1) _ _ (by omega) (by omega) (fun i hi => ?_)
      by_cases ei : i = l
      · refine hR (A k) (B k) _ _ (fun f hf => ?_) (fun f hf => ?_) (h k (by omega))
        · exact if_pos ⟨ei, hf⟩
        · exact if_pos ⟨ei, hf⟩
      · refine hR (A i) (B i) _ _ (fun f hf => ?_) (fun f hf => ?_) (h i hi)
        · exact if_neg (fun q => ei q.1)
        · exact if_neg (fun q => ei q.1)
theorem zcoW_ord (C : zCt) (k l : Nat) : zcop (zI C) 10 (k * 3) 10 (l * 3) 3 = zI (zcs C 4 (zcr (C 4) 3 l k)) := by
  have hd : ∀ k, zdk 10 k = some (4, k / 3, (k % 3 + 2) % 3) := fun _ => rfl
  funext x j
  unfold zcop
  by_cases e : x = 10
  · subst e
    have e1 : ∀ F, zI (zcs C 4 F) 10 j = F (j / 3) ((j % 3 + 2) % 3) := fun F => by rw [zI_get (hd j), zcs_eq]
    rw [e1]
    unfold zcr
    by_cases h : l * 3 ≤ j ∧ j < l * 3 + 3
    · rw [if_pos ⟨rfl, h⟩, if_pos ⟨by omega, by omega⟩, zI_get (hd _), show (k * 3 + (j - l * 3)) / 3 = k by omega, show (k * 3 + (j - l * 3)) % 3 = j % 3 by omega]
    · rw [if_neg (fun q => h q.2), if_neg (by omega), zI_get (hd _)]
  · rw [if_neg (fun h => e h.1)]
    unfold zI
    cases hk : zdk x j with
    | none => rfl
    | some t =>
      have ht : zdec x j = t := by
        unfold zdk at hk
        split at hk
        · cases hk
        · exact Option.some.inj hk
      show C t.1 t.2.1 t.2.2 = zcs C 4 _ t.1 t.2.1 t.2.2
      unfold zcs
      by_cases hg : t.1 = 4
      · exfalso
        have h1 := zdec_u x j
        rw [ht, hg] at h1
        have h2 : (zunc 4 t.2.1 t.2.2).1 = 10 := rfl
        rw [h1] at h2
        exact e h2
      · rw [if_neg hg]
theorem T45_ord (d L p0 p2 r2 r3 s4 : Nat) (n : Nat) (td : Int32) (hn : n ≤ 30) : ∀ (m k l : Nat) (C : zCt), C 0 0 7 = nI n → k + m = n → l ≤ k → zR d 45 4 [.ref 9, .int td, .int (nI l), .int (nI k)] [] (zZ L, zI C, zPd p0 p2 r2 r3 s4) = some (none, (zZ L, zI (zcs (zcs C 4 (zdu 3 td m k l (C 4)).1) 0 (zup (C 0) 0 7 (nI (zdu 3 td m k l (C 4)).2))), zPd p0 p2 r2 r3 s4)) := by
  intro m
  induction m with
  | zero =>
    intro k l C hC hk hl
    have hk : k = n := by omega
    subst hk
    have h1 : nI k ≤ nI k := Int32.le_refl _
    unfold zdu
    rw [zcs_self, e45_4]
    simp +decide (disch := omega) only [e45_63, hC, h1, zpre, ite_self, zs1, zs2, zs3, zI_eqb, and_self, not_true_eq_false, if_true, if_false, ite_true, ite_false, not_false_eq_true, zBP, zBZ, zisO, zisA, zlen, decide_true, decide_false, Bool.and_self, Bool.and_true, Bool.true_and, cond_true, cond_false, zBG, zBR, zBU, zBV, zinb_n, zix_n, zlA, zlB, zlM, zlN, zlX, zlI, nI_add, Nat.add_eq_zero_iff, false_and, and_false, and_true, true_and, true_or, or_true, false_or, or_false, zbool_i, zb0, zb1, zshp_0, zcs_eq, zcs_n, zcs_cs, zup_g, zup_n, zp2_sun, zp2_rock, zp2_tug, zp2_contract, zp2_window, zp2_code, zp2_rbody, zp2_rstock, zp2_tfree, zp2_thold, zp2_tknown, zp2_ccells, zsh2_sun, zsh2_rock, zsh2_body, zsh2_stock, zsh2_tug, zsh2_free, zsh2_hold, zsh2_known, zsh2_contract, zsh2_window, zsh2_code, zsh2_cells, zg_nsun0, zg_nsun1, zg_nsun2, zg_nrock0, zg_nrock1, zg_nrock2, zg_nrock3, zg_nrock4, zg_nrock5, zg_nrock6, zg_nrock7, zg_nrock8, zg_nrock9, zg_nrock10, zg_nrock11, zg_nrock12, zg_nrock13, zg_nrock14, zg_ntug0, zg_ntug1, zg_ntug2, zg_ntug3, zg_ntug4, zg_ntug5, zg_ntug6, zg_ntug7, zg_ntug8, zg_ntug9, zg_ntug10, zg_ntug11, zg_ntug12, zg_ntug13, zg_ntug14, zg_ntug15, zg_ntug17, zg_ntug18, zg_ntug19, zg_ntug20, zg_ntug21, zg_ntug22, zg_ncon0, zg_ncon1, zg_ncon2, zg_ncon3, zg_ncon4, zg_ncon5, zg_ncon6, zg_nwin0, zg_nwin1, zg_nwin2, zg_nwin3, zg_nwin4, zg_nwin5, zg_ncode0, zg_ncode1, zg_ncode3, zg_nrule, zg_nstock, zg_nhold, zg_nknown, zg_nord, zg_nrep, zg_ncla, zg_ntou, zg_ncel, zu_nsun0, zu_nsun1, zu_nsun2, zu_nrock0, zu_nrock1, zu_nrock2, zu_nrock3, zu_nrock4, zu_nrock5, zu_nrock6, zu_nrock7, zu_nrock8, zu_nrock9, zu_nrock10, zu_nrock11, zu_nrock12, zu_nrock13, zu_nrock14, zu_ntug0, zu_ntug1, zu_ntug2, zu_ntug3, zu_ntug4, zu_ntug5, zu_ntug6, zu_ntug7, zu_ntug8, zu_ntug9, zu_ntug10, zu_ntug11, zu_ntug12, zu_ntug13, zu_ntug14, zu_ntug15, zu_ntug17, zu_ntug18, zu_ntug19, zu_ntug20, zu_ntug21, zu_ntug22, zu_ncon0, zu_ncon1, zu_ncon2, zu_ncon3, zu_ncon4, zu_ncon5, zu_ncon6, zu_nwin0, zu_nwin1, zu_nwin2, zu_nwin3, zu_nwin4, zu_nwin5, zu_ncode3, zu_nrule, zu_nstock, zu_nhold, zu_nknown, zu_nord, zu_nrep, zu_ncla, zu_ntou, zu_ncel]
  | succ m ih =>
    intro k l C hC hk hl
    have hge : ¬ nI n ≤ nI k := nI_ge (by omega) (by omega)
    have hk1 : k * 3 + 3 ≤ 90 := by omega
    have hl1 : l * 3 + 3 ≤ 90 := by omega
    have hz : k * 3 = k * 3 + 0 := rfl
    have hg := zg_nord C (i := k) (c := 0) (by decide)
    rw [Nat.add_zero] at hg
    unfold zdu
    rw [e45_4]
    by_cases h : C 4 k 2 ≤ td
    · rw [if_pos h, ← ih (k + 1) l C hC (by omega) (by omega)]
      simp +decide (disch := omega) only [e45_12, e45_57, hC, hge, hg, h, Nat.reduceAdd, Nat.reduceMod, zpre, ite_self, zs1, zs2, zs3, zI_eqb, and_self, not_true_eq_false, if_true, if_false, ite_true, ite_false, not_false_eq_true, zBP, zBZ, zisO, zisA, zlen, decide_true, decide_false, Bool.and_self, Bool.and_true, Bool.true_and, cond_true, cond_false, zBG, zBR, zBU, zBV, zinb_n, zix_n, zlA, zlB, zlM, zlN, zlX, zlI, nI_add, Nat.add_eq_zero_iff, false_and, and_false, and_true, true_and, true_or, or_true, false_or, or_false, zbool_i, zb0, zb1, zshp_0, zcs_eq, zcs_n, zcs_cs, zup_g, zup_n, zp2_sun, zp2_rock, zp2_tug, zp2_contract, zp2_window, zp2_code, zp2_rbody, zp2_rstock, zp2_tfree, zp2_thold, zp2_tknown, zp2_ccells, zsh2_sun, zsh2_rock, zsh2_body, zsh2_stock, zsh2_tug, zsh2_free, zsh2_hold, zsh2_known, zsh2_contract, zsh2_window, zsh2_code, zsh2_cells, zg_nsun0, zg_nsun1, zg_nsun2, zg_nrock0, zg_nrock1, zg_nrock2, zg_nrock3, zg_nrock4, zg_nrock5, zg_nrock6, zg_nrock7, zg_nrock8, zg_nrock9, zg_nrock10, zg_nrock11, zg_nrock12, zg_nrock13, zg_nrock14, zg_ntug0, zg_ntug1, zg_ntug2, zg_ntug3, zg_ntug4, zg_ntug5, zg_ntug6, zg_ntug7, zg_ntug8, zg_ntug9, zg_ntug10, zg_ntug11, zg_ntug12, zg_ntug13, zg_ntug14, zg_ntug15, zg_ntug17, zg_ntug18, zg_ntug19, zg_ntug20, zg_ntug21, zg_ntug22, zg_ncon0, zg_ncon1, zg_ncon2, zg_ncon3, zg_ncon4, zg_ncon5, zg_ncon6, zg_nwin0, zg_nwin1, zg_nwin2, zg_nwin3, zg_nwin4, zg_nwin5, zg_ncode0, zg_ncode1, zg_ncode3, zg_nrule, zg_nstock, zg_nhold, zg_nknown, zg_nord, zg_nrep, zg_ncla, zg_ntou, zg_ncel, zu_nsun0, zu_nsun1, zu_nsun2, zu_nrock0, zu_nrock1, zu_nrock2, zu_nrock3, zu_nrock4, zu_nrock5, zu_nrock6, zu_nrock7, zu_nrock8, zu_nrock9, zu_nrock10, zu_nrock11, zu_nrock12, zu_nrock13, zu_nrock14, zu_ntug0, zu_ntug1, zu_ntug2, zu_ntug3, zu_ntug4, zu_ntug5, zu_ntug6, zu_ntug7, zu_ntug8, zu_ntug9, zu_ntug10, zu_ntug11, zu_ntug12, zu_ntug13, zu_ntug14, zu_ntug15, zu_ntug17, zu_ntug18, zu_ntug19, zu_ntug20, zu_ntug21, zu_ntug22, zu_ncon0, zu_ncon1, zu_ncon2, zu_ncon3, zu_ncon4, zu_ncon5, zu_ncon6, zu_nwin0, zu_nwin1, zu_nwin2, zu_nwin3, zu_nwin4, zu_nwin5, zu_ncode3, zu_nrule, zu_nstock, zu_nhold, zu_nknown, zu_nord, zu_nrep, zu_ncla, zu_ntou, zu_ncel]
    · rw [if_neg h]
      have hi := ih (k + 1) (l + 1) (zcs C 4 (zcr (C 4) 3 l k)) (by rw [zcs_n _ _ (by decide)]; exact hC) (by omega) (by omega)
      rw [zcs_eq, zcs_cs, zcs_n _ _ (by decide : (0 : Nat) ≠ 4)] at hi
      rw [← hi]
      simp +decide (disch := omega) only [e45_12, e45_27, e45_57, hC, hge, hg, h, hk1, hl1, zlt0, zcoW_ord, Bool.true_or, Nat.reduceAdd, Nat.reduceMod, zpre, ite_self, zs1, zs2, zs3, zI_eqb, and_self, not_true_eq_false, if_true, if_false, ite_true, ite_false, not_false_eq_true, zBP, zBZ, zisO, zisA, zlen, decide_true, decide_false, Bool.and_self, Bool.and_true, Bool.true_and, cond_true, cond_false, zBG, zBR, zBU, zBV, zinb_n, zix_n, zlA, zlB, zlM, zlN, zlX, zlI, nI_add, Nat.add_eq_zero_iff, false_and, and_false, and_true, true_and, true_or, or_true, false_or, or_false, zbool_i, zb0, zb1, zshp_0, zcs_eq, zcs_n, zcs_cs, zup_g, zup_n, zp2_sun, zp2_rock, zp2_tug, zp2_contract, zp2_window, zp2_code, zp2_rbody, zp2_rstock, zp2_tfree, zp2_thold, zp2_tknown, zp2_ccells, zsh2_sun, zsh2_rock, zsh2_body, zsh2_stock, zsh2_tug, zsh2_free, zsh2_hold, zsh2_known, zsh2_contract, zsh2_window, zsh2_code, zsh2_cells, zg_nsun0, zg_nsun1, zg_nsun2, zg_nrock0, zg_nrock1, zg_nrock2, zg_nrock3, zg_nrock4, zg_nrock5, zg_nrock6, zg_nrock7, zg_nrock8, zg_nrock9, zg_nrock10, zg_nrock11, zg_nrock12, zg_nrock13, zg_nrock14, zg_ntug0, zg_ntug1, zg_ntug2, zg_ntug3, zg_ntug4, zg_ntug5, zg_ntug6, zg_ntug7, zg_ntug8, zg_ntug9, zg_ntug10, zg_ntug11, zg_ntug12, zg_ntug13, zg_ntug14, zg_ntug15, zg_ntug17, zg_ntug18, zg_ntug19, zg_ntug20, zg_ntug21, zg_ntug22, zg_ncon0, zg_ncon1, zg_ncon2, zg_ncon3, zg_ncon4, zg_ncon5, zg_ncon6, zg_nwin0, zg_nwin1, zg_nwin2, zg_nwin3, zg_nwin4, zg_nwin5, zg_ncode0, zg_ncode1, zg_ncode3, zg_nrule, zg_nstock, zg_nhold, zg_nknown, zg_nord, zg_nrep, zg_ncla, zg_ntou, zg_ncel, zu_nsun0, zu_nsun1, zu_nsun2, zu_nrock0, zu_nrock1, zu_nrock2, zu_nrock3, zu_nrock4, zu_nrock5, zu_nrock6, zu_nrock7, zu_nrock8, zu_nrock9, zu_nrock10, zu_nrock11, zu_nrock12, zu_nrock13, zu_nrock14, zu_ntug0, zu_ntug1, zu_ntug2, zu_ntug3, zu_ntug4, zu_ntug5, zu_ntug6, zu_ntug7, zu_ntug8, zu_ntug9, zu_ntug10, zu_ntug11, zu_ntug12, zu_ntug13, zu_ntug14, zu_ntug15, zu_ntug17, zu_ntug18, zu_ntug19, zu_ntug20, zu_ntug21, zu_ntug22, zu_ncon0, zu_ncon1, zu_ncon2, zu_ncon3, zu_ncon4, zu_ncon5, zu_ncon6, zu_nwin0, zu_nwin1, zu_nwin2, zu_nwin3, zu_nwin4, zu_nwin5, zu_ncode3, zu_nrule, zu_nstock, zu_nhold, zu_nknown, zu_nord, zu_nrep, zu_ncla, zu_ntou, zu_ncel]
theorem T205_cp0 (d L p0 p2 r2 r3 s4 : Nat) (C : zCt) {k l : Nat} (x2 : Int32) (hk : k < 30) (hl : l < 30) : zR d 205 118 [.ref 201, .int (nI l), .int x2, .int (nI (272 + 3 * k)), .int 0] [] (zZ L, zI C, zPd p0 p2 r2 r3 s4) = zR d 205 118 [.ref 201, .int (nI l), .int x2, .int (nI (272 + 3 * k)), .int 1] [] (zZ L, zI (zcs C 44 (zup (C 44) l 0 (C 44 k 0))), zPd p0 p2 r2 r3 s4) := by
  rw [e205_118, if_neg (by decide)]
  simp +decide (disch := omega) only [e205_124, zli, zli8, Nat.add_zero, zpre, ite_self, Nat.reduceAdd, zs1, zs2, zs3, zI_eqb, and_self, not_true_eq_false, if_true, if_false, ite_true, ite_false, not_false_eq_true, zBP, zBZ, zisO, zisA, zlen, decide_true, decide_false, Bool.and_self, Bool.and_true, Bool.true_and, cond_true, cond_false, zBG, zBR, zBU, zBV, zinb_n, zix_n, zlA, zlB, zlM, zlN, zlX, zlI, nI_add, Nat.add_eq_zero_iff, false_and, and_false, and_true, true_and, true_or, or_true, false_or, or_false, zbool_i, zb0, zb1, zshp_0, zcs_eq, zcs_n, zcs_cs, zup_g, zup_n, zg_srock2, zg_stug2, zg_ssun, zg_ssun0, zg_srock, zg_srock0, zg_stug, zg_stug0, zg_sord, zg_sord0, zg_srep, zg_srep0, zg_scla, zg_scla0, zg_scon, zg_scon0, zg_swin, zg_swin0, zg_sleg, zg_sleg0, zg_spro, zg_sstp, zg_swrd, zu_srock2, zu_stug2, zu_ssun, zu_ssun0, zu_srock, zu_srock0, zu_stug, zu_stug0, zu_sord, zu_sord0, zu_srep, zu_srep0, zu_scla, zu_scla0, zu_scon, zu_scon0, zu_swin, zu_swin0, zu_sleg, zu_sleg0, zu_spro, zu_sstp, zu_swrd]
theorem T205_cp1 (d L p0 p2 r2 r3 s4 : Nat) (C : zCt) {k l : Nat} (x2 : Int32) (hk : k < 30) (hl : l < 30) : zR d 205 118 [.ref 201, .int (nI l), .int x2, .int (nI (272 + 3 * k)), .int 1] [] (zZ L, zI C, zPd p0 p2 r2 r3 s4) = zR d 205 118 [.ref 201, .int (nI l), .int x2, .int (nI (272 + 3 * k)), .int 2] [] (zZ L, zI (zcs C 44 (zup (C 44) l 1 (C 44 k 1))), zPd p0 p2 r2 r3 s4) := by
  rw [e205_118, if_neg (by decide)]
  simp +decide (disch := omega) only [e205_124, zli, zli8, Nat.add_zero, zpre, ite_self, Nat.reduceAdd, zs1, zs2, zs3, zI_eqb, and_self, not_true_eq_false, if_true, if_false, ite_true, ite_false, not_false_eq_true, zBP, zBZ, zisO, zisA, zlen, decide_true, decide_false, Bool.and_self, Bool.and_true, Bool.true_and, cond_true, cond_false, zBG, zBR, zBU, zBV, zinb_n, zix_n, zlA, zlB, zlM, zlN, zlX, zlI, nI_add, Nat.add_eq_zero_iff, false_and, and_false, and_true, true_and, true_or, or_true, false_or, or_false, zbool_i, zb0, zb1, zshp_0, zcs_eq, zcs_n, zcs_cs, zup_g, zup_n, zg_srock2, zg_stug2, zg_ssun, zg_ssun0, zg_srock, zg_srock0, zg_stug, zg_stug0, zg_sord, zg_sord0, zg_srep, zg_srep0, zg_scla, zg_scla0, zg_scon, zg_scon0, zg_swin, zg_swin0, zg_sleg, zg_sleg0, zg_spro, zg_sstp, zg_swrd, zu_srock2, zu_stug2, zu_ssun, zu_ssun0, zu_srock, zu_srock0, zu_stug, zu_stug0, zu_sord, zu_sord0, zu_srep, zu_srep0, zu_scla, zu_scla0, zu_scon, zu_scon0, zu_swin, zu_swin0, zu_sleg, zu_sleg0, zu_spro, zu_sstp, zu_swrd]
theorem T205_cp2 (d L p0 p2 r2 r3 s4 : Nat) (C : zCt) {k l : Nat} (x2 : Int32) (hk : k < 30) (hl : l < 30) : zR d 205 118 [.ref 201, .int (nI l), .int x2, .int (nI (272 + 3 * k)), .int 2] [] (zZ L, zI C, zPd p0 p2 r2 r3 s4) = zR d 205 118 [.ref 201, .int (nI l), .int x2, .int (nI (272 + 3 * k)), .int 3] [] (zZ L, zI (zcs C 44 (zup (C 44) l 2 (C 44 k 2))), zPd p0 p2 r2 r3 s4) := by
  rw [e205_118, if_neg (by decide)]
  simp +decide (disch := omega) only [e205_124, zli, zli8, Nat.add_zero, zpre, ite_self, Nat.reduceAdd, zs1, zs2, zs3, zI_eqb, and_self, not_true_eq_false, if_true, if_false, ite_true, ite_false, not_false_eq_true, zBP, zBZ, zisO, zisA, zlen, decide_true, decide_false, Bool.and_self, Bool.and_true, Bool.true_and, cond_true, cond_false, zBG, zBR, zBU, zBV, zinb_n, zix_n, zlA, zlB, zlM, zlN, zlX, zlI, nI_add, Nat.add_eq_zero_iff, false_and, and_false, and_true, true_and, true_or, or_true, false_or, or_false, zbool_i, zb0, zb1, zshp_0, zcs_eq, zcs_n, zcs_cs, zup_g, zup_n, zg_srock2, zg_stug2, zg_ssun, zg_ssun0, zg_srock, zg_srock0, zg_stug, zg_stug0, zg_sord, zg_sord0, zg_srep, zg_srep0, zg_scla, zg_scla0, zg_scon, zg_scon0, zg_swin, zg_swin0, zg_sleg, zg_sleg0, zg_spro, zg_sstp, zg_swrd, zu_srock2, zu_stug2, zu_ssun, zu_ssun0, zu_srock, zu_srock0, zu_stug, zu_stug0, zu_sord, zu_sord0, zu_srep, zu_srep0, zu_scla, zu_scla0, zu_scon, zu_scon0, zu_swin, zu_swin0, zu_sleg, zu_sleg0, zu_spro, zu_sstp, zu_swrd]
theorem zcr_ord (a : zGp) (l k : Nat) : (zup (zup (zup a l 0 (a k 0)) l 1 ((zup a l 0 (a k 0)) k 1)) l 2 ((zup (zup a l 0 (a k 0)) l 1 ((zup a l 0 (a k 0)) k 1)) k 2)) = zcr a 3 l k := by
  funext i f
  unfold zcr
  by_cases e : i = l ∧ f < 3
  · rw [if_pos e]
    obtain ⟨rfl, hf⟩ := e
    by_cases ek : k = i
    · subst ek
      rcases (show f = 0 ∨ f = 1 ∨ f = 2 by omega) with rfl | rfl | rfl <;> simp (disch := omega) only [zup_g, zup_n]
    · rcases (show f = 0 ∨ f = 1 ∨ f = 2 by omega) with rfl | rfl | rfl <;> simp (disch := omega) only [zup_g, zup_n]
  · rw [if_neg e]
    simp (disch := omega) only [zup_n]
theorem T205_copy (d L p0 p2 r2 r3 s4 : Nat) (C : zCt) {k l : Nat} (x2 : Int32) (v4 : Value) (hk : k < 30) (hl : l < 30) : zR d 205 115 [.ref 201, .int (nI l), .int x2, .int (nI (272 + 3 * k)), v4] [] (zZ L, zI C, zPd p0 p2 r2 r3 s4) = zR d 205 4 [.ref 201, .int (nI (l + 1)), .int (x2 + 1), .int (nI (272 + 3 * k)), .int 3] [] (zZ L, zI (zcs C 44 (zcr (C 44) 3 l k)), zPd p0 p2 r2 r3 s4) := by
  rw [e205_115, T205_cp0 d L p0 p2 r2 r3 s4 _ x2 hk hl, T205_cp1 d L p0 p2 r2 r3 s4 _ x2 hk hl, T205_cp2 d L p0 p2 r2 r3 s4 _ x2 hk hl, e205_118, if_pos (by decide), e205_154, e205_157, show nI l + 1 = nI (l + 1) from nI_add l 1]
  simp only [zcs_cs, zcs_eq]
  rw [zcr_ord]
theorem zcoW_rep (C : zCt) (k l : Nat) : zcop (zI C) 12 (k * 8) 12 (l * 8) 8 = zI (zcs C 5 (zcr (C 5) 8 l k)) := by
  have hd : ∀ k, zdk 12 k = some (5, k / 8, (k % 8 + 7) % 8) := fun _ => rfl
  funext x j
  unfold zcop
  by_cases e : x = 12
  · subst e
    have e1 : ∀ F, zI (zcs C 5 F) 12 j = F (j / 8) ((j % 8 + 7) % 8) := fun F => by rw [zI_get (hd j), zcs_eq]
    rw [e1]
    unfold zcr
    by_cases h : l * 8 ≤ j ∧ j < l * 8 + 8
    · rw [if_pos ⟨rfl, h⟩, if_pos ⟨by omega, by omega⟩, zI_get (hd _), show (k * 8 + (j - l * 8)) / 8 = k by omega, show (k * 8 + (j - l * 8)) % 8 = j % 8 by omega]
    · rw [if_neg (fun q => h q.2), if_neg (by omega), zI_get (hd _)]
  · rw [if_neg (fun h => e h.1)]
    unfold zI
    cases hk : zdk x j with
    | none => rfl
    | some t =>
      have ht : zdec x j = t := by
        unfold zdk at hk
        split at hk
        · cases hk
        · exact Option.some.inj hk
      show C t.1 t.2.1 t.2.2 = zcs C 5 _ t.1 t.2.1 t.2.2
      unfold zcs
      by_cases hg : t.1 = 5
      · exfalso
        have h1 := zdec_u x j
        rw [ht, hg] at h1
        have h2 : (zunc 5 t.2.1 t.2.2).1 = 12 := rfl
        rw [h1] at h2
        exact e h2
      · rw [if_neg hg]
theorem T45_rep (d L p0 p2 r2 r3 s4 : Nat) (n : Nat) (td : Int32) (hn : n ≤ 60) : ∀ (m k l : Nat) (C : zCt), C 0 0 8 = nI n → k + m = n → l ≤ k → zR d 45 4 [.ref 11, .int td, .int (nI l), .int (nI k)] [] (zZ L, zI C, zPd p0 p2 r2 r3 s4) = some (none, (zZ L, zI (zcs (zcs C 5 (zdu 8 td m k l (C 5)).1) 0 (zup (C 0) 0 8 (nI (zdu 8 td m k l (C 5)).2))), zPd p0 p2 r2 r3 s4)) := by
  intro m
  induction m with
  | zero =>
    intro k l C hC hk hl
    have hk : k = n := by omega
    subst hk
    have h1 : nI k ≤ nI k := Int32.le_refl _
    unfold zdu
    rw [zcs_self, e45_4]
    simp +decide (disch := omega) only [e45_63, hC, h1, zpre, ite_self, zs1, zs2, zs3, zI_eqb, and_self, not_true_eq_false, if_true, if_false, ite_true, ite_false, not_false_eq_true, zBP, zBZ, zisO, zisA, zlen, decide_true, decide_false, Bool.and_self, Bool.and_true, Bool.true_and, cond_true, cond_false, zBG, zBR, zBU, zBV, zinb_n, zix_n, zlA, zlB, zlM, zlN, zlX, zlI, nI_add, Nat.add_eq_zero_iff, false_and, and_false, and_true, true_and, true_or, or_true, false_or, or_false, zbool_i, zb0, zb1, zshp_0, zcs_eq, zcs_n, zcs_cs, zup_g, zup_n, zp2_sun, zp2_rock, zp2_tug, zp2_contract, zp2_window, zp2_code, zp2_rbody, zp2_rstock, zp2_tfree, zp2_thold, zp2_tknown, zp2_ccells, zsh2_sun, zsh2_rock, zsh2_body, zsh2_stock, zsh2_tug, zsh2_free, zsh2_hold, zsh2_known, zsh2_contract, zsh2_window, zsh2_code, zsh2_cells, zg_nsun0, zg_nsun1, zg_nsun2, zg_nrock0, zg_nrock1, zg_nrock2, zg_nrock3, zg_nrock4, zg_nrock5, zg_nrock6, zg_nrock7, zg_nrock8, zg_nrock9, zg_nrock10, zg_nrock11, zg_nrock12, zg_nrock13, zg_nrock14, zg_ntug0, zg_ntug1, zg_ntug2, zg_ntug3, zg_ntug4, zg_ntug5, zg_ntug6, zg_ntug7, zg_ntug8, zg_ntug9, zg_ntug10, zg_ntug11, zg_ntug12, zg_ntug13, zg_ntug14, zg_ntug15, zg_ntug17, zg_ntug18, zg_ntug19, zg_ntug20, zg_ntug21, zg_ntug22, zg_ncon0, zg_ncon1, zg_ncon2, zg_ncon3, zg_ncon4, zg_ncon5, zg_ncon6, zg_nwin0, zg_nwin1, zg_nwin2, zg_nwin3, zg_nwin4, zg_nwin5, zg_ncode0, zg_ncode1, zg_ncode3, zg_nrule, zg_nstock, zg_nhold, zg_nknown, zg_nord, zg_nrep, zg_ncla, zg_ntou, zg_ncel, zu_nsun0, zu_nsun1, zu_nsun2, zu_nrock0, zu_nrock1, zu_nrock2, zu_nrock3, zu_nrock4, zu_nrock5, zu_nrock6, zu_nrock7, zu_nrock8, zu_nrock9, zu_nrock10, zu_nrock11, zu_nrock12, zu_nrock13, zu_nrock14, zu_ntug0, zu_ntug1, zu_ntug2, zu_ntug3, zu_ntug4, zu_ntug5, zu_ntug6, zu_ntug7, zu_ntug8, zu_ntug9, zu_ntug10, zu_ntug11, zu_ntug12, zu_ntug13, zu_ntug14, zu_ntug15, zu_ntug17, zu_ntug18, zu_ntug19, zu_ntug20, zu_ntug21, zu_ntug22, zu_ncon0, zu_ncon1, zu_ncon2, zu_ncon3, zu_ncon4, zu_ncon5, zu_ncon6, zu_nwin0, zu_nwin1, zu_nwin2, zu_nwin3, zu_nwin4, zu_nwin5, zu_ncode3, zu_nrule, zu_nstock, zu_nhold, zu_nknown, zu_nord, zu_nrep, zu_ncla, zu_ntou, zu_ncel]
  | succ m ih =>
    intro k l C hC hk hl
    have hge : ¬ nI n ≤ nI k := nI_ge (by omega) (by omega)
    have hk1 : k * 8 + 8 ≤ 480 := by omega
    have hl1 : l * 8 + 8 ≤ 480 := by omega
    have hz : k * 8 = k * 8 + 0 := rfl
    have hg := zg_nrep C (i := k) (c := 0) (by decide)
    rw [Nat.add_zero] at hg
    unfold zdu
    rw [e45_4]
    by_cases h : C 5 k 7 ≤ td
    · rw [if_pos h, ← ih (k + 1) l C hC (by omega) (by omega)]
      simp +decide (disch := omega) only [e45_12, e45_57, hC, hge, hg, h, Nat.reduceAdd, Nat.reduceMod, zpre, ite_self, zs1, zs2, zs3, zI_eqb, and_self, not_true_eq_false, if_true, if_false, ite_true, ite_false, not_false_eq_true, zBP, zBZ, zisO, zisA, zlen, decide_true, decide_false, Bool.and_self, Bool.and_true, Bool.true_and, cond_true, cond_false, zBG, zBR, zBU, zBV, zinb_n, zix_n, zlA, zlB, zlM, zlN, zlX, zlI, nI_add, Nat.add_eq_zero_iff, false_and, and_false, and_true, true_and, true_or, or_true, false_or, or_false, zbool_i, zb0, zb1, zshp_0, zcs_eq, zcs_n, zcs_cs, zup_g, zup_n, zp2_sun, zp2_rock, zp2_tug, zp2_contract, zp2_window, zp2_code, zp2_rbody, zp2_rstock, zp2_tfree, zp2_thold, zp2_tknown, zp2_ccells, zsh2_sun, zsh2_rock, zsh2_body, zsh2_stock, zsh2_tug, zsh2_free, zsh2_hold, zsh2_known, zsh2_contract, zsh2_window, zsh2_code, zsh2_cells, zg_nsun0, zg_nsun1, zg_nsun2, zg_nrock0, zg_nrock1, zg_nrock2, zg_nrock3, zg_nrock4, zg_nrock5, zg_nrock6, zg_nrock7, zg_nrock8, zg_nrock9, zg_nrock10, zg_nrock11, zg_nrock12, zg_nrock13, zg_nrock14, zg_ntug0, zg_ntug1, zg_ntug2, zg_ntug3, zg_ntug4, zg_ntug5, zg_ntug6, zg_ntug7, zg_ntug8, zg_ntug9, zg_ntug10, zg_ntug11, zg_ntug12, zg_ntug13, zg_ntug14, zg_ntug15, zg_ntug17, zg_ntug18, zg_ntug19, zg_ntug20, zg_ntug21, zg_ntug22, zg_ncon0, zg_ncon1, zg_ncon2, zg_ncon3, zg_ncon4, zg_ncon5, zg_ncon6, zg_nwin0, zg_nwin1, zg_nwin2, zg_nwin3, zg_nwin4, zg_nwin5, zg_ncode0, zg_ncode1, zg_ncode3, zg_nrule, zg_nstock, zg_nhold, zg_nknown, zg_nord, zg_nrep, zg_ncla, zg_ntou, zg_ncel, zu_nsun0, zu_nsun1, zu_nsun2, zu_nrock0, zu_nrock1, zu_nrock2, zu_nrock3, zu_nrock4, zu_nrock5, zu_nrock6, zu_nrock7, zu_nrock8, zu_nrock9, zu_nrock10, zu_nrock11, zu_nrock12, zu_nrock13, zu_nrock14, zu_ntug0, zu_ntug1, zu_ntug2, zu_ntug3, zu_ntug4, zu_ntug5, zu_ntug6, zu_ntug7, zu_ntug8, zu_ntug9, zu_ntug10, zu_ntug11, zu_ntug12, zu_ntug13, zu_ntug14, zu_ntug15, zu_ntug17, zu_ntug18, zu_ntug19, zu_ntug20, zu_ntug21, zu_ntug22, zu_ncon0, zu_ncon1, zu_ncon2, zu_ncon3, zu_ncon4, zu_ncon5, zu_ncon6, zu_nwin0, zu_nwin1, zu_nwin2, zu_nwin3, zu_nwin4, zu_nwin5, zu_ncode3, zu_nrule, zu_nstock, zu_nhold, zu_nknown, zu_nord, zu_nrep, zu_ncla, zu_ntou, zu_ncel]
    · rw [if_neg h]
      have hi := ih (k + 1) (l + 1) (zcs C 5 (zcr (C 5) 8 l k)) (by rw [zcs_n _ _ (by decide)]; exact hC) (by omega) (by omega)
      rw [zcs_eq, zcs_cs, zcs_n _ _ (by decide : (0 : Nat) ≠ 5)] at hi
      rw [← hi]
      simp +decide (disch := omega) only [e45_12, e45_27, e45_57, hC, hge, hg, h, hk1, hl1, zlt0, zcoW_rep, Bool.true_or, Nat.reduceAdd, Nat.reduceMod, zpre, ite_self, zs1, zs2, zs3, zI_eqb, and_self, not_true_eq_false, if_true, if_false, ite_true, ite_false, not_false_eq_true, zBP, zBZ, zisO, zisA, zlen, decide_true, decide_false, Bool.and_self, Bool.and_true, Bool.true_and, cond_true, cond_false, zBG, zBR, zBU, zBV, zinb_n, zix_n, zlA, zlB, zlM, zlN, zlX, zlI, nI_add, Nat.add_eq_zero_iff, false_and, and_false, and_true, true_and, true_or, or_true, false_or, or_false, zbool_i, zb0, zb1, zshp_0, zcs_eq, zcs_n, zcs_cs, zup_g, zup_n, zp2_sun, zp2_rock, zp2_tug, zp2_contract, zp2_window, zp2_code, zp2_rbody, zp2_rstock, zp2_tfree, zp2_thold, zp2_tknown, zp2_ccells, zsh2_sun, zsh2_rock, zsh2_body, zsh2_stock, zsh2_tug, zsh2_free, zsh2_hold, zsh2_known, zsh2_contract, zsh2_window, zsh2_code, zsh2_cells, zg_nsun0, zg_nsun1, zg_nsun2, zg_nrock0, zg_nrock1, zg_nrock2, zg_nrock3, zg_nrock4, zg_nrock5, zg_nrock6, zg_nrock7, zg_nrock8, zg_nrock9, zg_nrock10, zg_nrock11, zg_nrock12, zg_nrock13, zg_nrock14, zg_ntug0, zg_ntug1, zg_ntug2, zg_ntug3, zg_ntug4, zg_ntug5, zg_ntug6, zg_ntug7, zg_ntug8, zg_ntug9, zg_ntug10, zg_ntug11, zg_ntug12, zg_ntug13, zg_ntug14, zg_ntug15, zg_ntug17, zg_ntug18, zg_ntug19, zg_ntug20, zg_ntug21, zg_ntug22, zg_ncon0, zg_ncon1, zg_ncon2, zg_ncon3, zg_ncon4, zg_ncon5, zg_ncon6, zg_nwin0, zg_nwin1, zg_nwin2, zg_nwin3, zg_nwin4, zg_nwin5, zg_ncode0, zg_ncode1, zg_ncode3, zg_nrule, zg_nstock, zg_nhold, zg_nknown, zg_nord, zg_nrep, zg_ncla, zg_ntou, zg_ncel, zu_nsun0, zu_nsun1, zu_nsun2, zu_nrock0, zu_nrock1, zu_nrock2, zu_nrock3, zu_nrock4, zu_nrock5, zu_nrock6, zu_nrock7, zu_nrock8, zu_nrock9, zu_nrock10, zu_nrock11, zu_nrock12, zu_nrock13, zu_nrock14, zu_ntug0, zu_ntug1, zu_ntug2, zu_ntug3, zu_ntug4, zu_ntug5, zu_ntug6, zu_ntug7, zu_ntug8, zu_ntug9, zu_ntug10, zu_ntug11, zu_ntug12, zu_ntug13, zu_ntug14, zu_ntug15, zu_ntug17, zu_ntug18, zu_ntug19, zu_ntug20, zu_ntug21, zu_ntug22, zu_ncon0, zu_ncon1, zu_ncon2, zu_ncon3, zu_ncon4, zu_ncon5, zu_ncon6, zu_nwin0, zu_nwin1, zu_nwin2, zu_nwin3, zu_nwin4, zu_nwin5, zu_ncode3, zu_nrule, zu_nstock, zu_nhold, zu_nknown, zu_nord, zu_nrep, zu_ncla, zu_ntou, zu_ncel]
theorem T206_cp0 (d L p0 p2 r2 r3 s4 : Nat) (C : zCt) {k l : Nat} (x2 : Int32) (v5 : Value) (hk : k < 60) (hl : l < 60) : zR d 206 151 [.ref 201, .int (nI l), .int x2, .int (nI (362 + 8 * k)), .int 0, v5] [] (zZ L, zI C, zPd p0 p2 r2 r3 s4) = zR d 206 151 [.ref 201, .int (nI l), .int x2, .int (nI (362 + 8 * k)), .int 1, v5] [] (zZ L, zI (zcs C 45 (zup (C 45) l 0 (C 45 k 0))), zPd p0 p2 r2 r3 s4) := by
  rw [e206_151, if_neg (by decide)]
  simp +decide (disch := omega) only [e206_158, zli, zli8, Nat.add_zero, zpre, ite_self, Nat.reduceAdd, zs1, zs2, zs3, zI_eqb, and_self, not_true_eq_false, if_true, if_false, ite_true, ite_false, not_false_eq_true, zBP, zBZ, zisO, zisA, zlen, decide_true, decide_false, Bool.and_self, Bool.and_true, Bool.true_and, cond_true, cond_false, zBG, zBR, zBU, zBV, zinb_n, zix_n, zlA, zlB, zlM, zlN, zlX, zlI, nI_add, Nat.add_eq_zero_iff, false_and, and_false, and_true, true_and, true_or, or_true, false_or, or_false, zbool_i, zb0, zb1, zshp_0, zcs_eq, zcs_n, zcs_cs, zup_g, zup_n, zg_srock2, zg_stug2, zg_ssun, zg_ssun0, zg_srock, zg_srock0, zg_stug, zg_stug0, zg_sord, zg_sord0, zg_srep, zg_srep0, zg_scla, zg_scla0, zg_scon, zg_scon0, zg_swin, zg_swin0, zg_sleg, zg_sleg0, zg_spro, zg_sstp, zg_swrd, zu_srock2, zu_stug2, zu_ssun, zu_ssun0, zu_srock, zu_srock0, zu_stug, zu_stug0, zu_sord, zu_sord0, zu_srep, zu_srep0, zu_scla, zu_scla0, zu_scon, zu_scon0, zu_swin, zu_swin0, zu_sleg, zu_sleg0, zu_spro, zu_sstp, zu_swrd]
theorem T206_cp1 (d L p0 p2 r2 r3 s4 : Nat) (C : zCt) {k l : Nat} (x2 : Int32) (v5 : Value) (hk : k < 60) (hl : l < 60) : zR d 206 151 [.ref 201, .int (nI l), .int x2, .int (nI (362 + 8 * k)), .int 1, v5] [] (zZ L, zI C, zPd p0 p2 r2 r3 s4) = zR d 206 151 [.ref 201, .int (nI l), .int x2, .int (nI (362 + 8 * k)), .int 2, v5] [] (zZ L, zI (zcs C 45 (zup (C 45) l 1 (C 45 k 1))), zPd p0 p2 r2 r3 s4) := by
  rw [e206_151, if_neg (by decide)]
  simp +decide (disch := omega) only [e206_158, zli, zli8, Nat.add_zero, zpre, ite_self, Nat.reduceAdd, zs1, zs2, zs3, zI_eqb, and_self, not_true_eq_false, if_true, if_false, ite_true, ite_false, not_false_eq_true, zBP, zBZ, zisO, zisA, zlen, decide_true, decide_false, Bool.and_self, Bool.and_true, Bool.true_and, cond_true, cond_false, zBG, zBR, zBU, zBV, zinb_n, zix_n, zlA, zlB, zlM, zlN, zlX, zlI, nI_add, Nat.add_eq_zero_iff, false_and, and_false, and_true, true_and, true_or, or_true, false_or, or_false, zbool_i, zb0, zb1, zshp_0, zcs_eq, zcs_n, zcs_cs, zup_g, zup_n, zg_srock2, zg_stug2, zg_ssun, zg_ssun0, zg_srock, zg_srock0, zg_stug, zg_stug0, zg_sord, zg_sord0, zg_srep, zg_srep0, zg_scla, zg_scla0, zg_scon, zg_scon0, zg_swin, zg_swin0, zg_sleg, zg_sleg0, zg_spro, zg_sstp, zg_swrd, zu_srock2, zu_stug2, zu_ssun, zu_ssun0, zu_srock, zu_srock0, zu_stug, zu_stug0, zu_sord, zu_sord0, zu_srep, zu_srep0, zu_scla, zu_scla0, zu_scon, zu_scon0, zu_swin, zu_swin0, zu_sleg, zu_sleg0, zu_spro, zu_sstp, zu_swrd]
theorem T206_cp2 (d L p0 p2 r2 r3 s4 : Nat) (C : zCt) {k l : Nat} (x2 : Int32) (v5 : Value) (hk : k < 60) (hl : l < 60) : zR d 206 151 [.ref 201, .int (nI l), .int x2, .int (nI (362 + 8 * k)), .int 2, v5] [] (zZ L, zI C, zPd p0 p2 r2 r3 s4) = zR d 206 151 [.ref 201, .int (nI l), .int x2, .int (nI (362 + 8 * k)), .int 3, v5] [] (zZ L, zI (zcs C 45 (zup (C 45) l 2 (C 45 k 2))), zPd p0 p2 r2 r3 s4) := by
  rw [e206_151, if_neg (by decide)]
  simp +decide (disch := omega) only [e206_158, zli, zli8, Nat.add_zero, zpre, ite_self, Nat.reduceAdd, zs1, zs2, zs3, zI_eqb, and_self, not_true_eq_false, if_true, if_false, ite_true, ite_false, not_false_eq_true, zBP, zBZ, zisO, zisA, zlen, decide_true, decide_false, Bool.and_self, Bool.and_true, Bool.true_and, cond_true, cond_false, zBG, zBR, zBU, zBV, zinb_n, zix_n, zlA, zlB, zlM, zlN, zlX, zlI, nI_add, Nat.add_eq_zero_iff, false_and, and_false, and_true, true_and, true_or, or_true, false_or, or_false, zbool_i, zb0, zb1, zshp_0, zcs_eq, zcs_n, zcs_cs, zup_g, zup_n, zg_srock2, zg_stug2, zg_ssun, zg_ssun0, zg_srock, zg_srock0, zg_stug, zg_stug0, zg_sord, zg_sord0, zg_srep, zg_srep0, zg_scla, zg_scla0, zg_scon, zg_scon0, zg_swin, zg_swin0, zg_sleg, zg_sleg0, zg_spro, zg_sstp, zg_swrd, zu_srock2, zu_stug2, zu_ssun, zu_ssun0, zu_srock, zu_srock0, zu_stug, zu_stug0, zu_sord, zu_sord0, zu_srep, zu_srep0, zu_scla, zu_scla0, zu_scon, zu_scon0, zu_swin, zu_swin0, zu_sleg, zu_sleg0, zu_spro, zu_sstp, zu_swrd]
theorem T206_cp3 (d L p0 p2 r2 r3 s4 : Nat) (C : zCt) {k l : Nat} (x2 : Int32) (v5 : Value) (hk : k < 60) (hl : l < 60) : zR d 206 151 [.ref 201, .int (nI l), .int x2, .int (nI (362 + 8 * k)), .int 3, v5] [] (zZ L, zI C, zPd p0 p2 r2 r3 s4) = zR d 206 151 [.ref 201, .int (nI l), .int x2, .int (nI (362 + 8 * k)), .int 4, v5] [] (zZ L, zI (zcs C 45 (zup (C 45) l 3 (C 45 k 3))), zPd p0 p2 r2 r3 s4) := by
  rw [e206_151, if_neg (by decide)]
  simp +decide (disch := omega) only [e206_158, zli, zli8, Nat.add_zero, zpre, ite_self, Nat.reduceAdd, zs1, zs2, zs3, zI_eqb, and_self, not_true_eq_false, if_true, if_false, ite_true, ite_false, not_false_eq_true, zBP, zBZ, zisO, zisA, zlen, decide_true, decide_false, Bool.and_self, Bool.and_true, Bool.true_and, cond_true, cond_false, zBG, zBR, zBU, zBV, zinb_n, zix_n, zlA, zlB, zlM, zlN, zlX, zlI, nI_add, Nat.add_eq_zero_iff, false_and, and_false, and_true, true_and, true_or, or_true, false_or, or_false, zbool_i, zb0, zb1, zshp_0, zcs_eq, zcs_n, zcs_cs, zup_g, zup_n, zg_srock2, zg_stug2, zg_ssun, zg_ssun0, zg_srock, zg_srock0, zg_stug, zg_stug0, zg_sord, zg_sord0, zg_srep, zg_srep0, zg_scla, zg_scla0, zg_scon, zg_scon0, zg_swin, zg_swin0, zg_sleg, zg_sleg0, zg_spro, zg_sstp, zg_swrd, zu_srock2, zu_stug2, zu_ssun, zu_ssun0, zu_srock, zu_srock0, zu_stug, zu_stug0, zu_sord, zu_sord0, zu_srep, zu_srep0, zu_scla, zu_scla0, zu_scon, zu_scon0, zu_swin, zu_swin0, zu_sleg, zu_sleg0, zu_spro, zu_sstp, zu_swrd]
theorem T206_cp4 (d L p0 p2 r2 r3 s4 : Nat) (C : zCt) {k l : Nat} (x2 : Int32) (v5 : Value) (hk : k < 60) (hl : l < 60) : zR d 206 151 [.ref 201, .int (nI l), .int x2, .int (nI (362 + 8 * k)), .int 4, v5] [] (zZ L, zI C, zPd p0 p2 r2 r3 s4) = zR d 206 151 [.ref 201, .int (nI l), .int x2, .int (nI (362 + 8 * k)), .int 5, v5] [] (zZ L, zI (zcs C 45 (zup (C 45) l 4 (C 45 k 4))), zPd p0 p2 r2 r3 s4) := by
  rw [e206_151, if_neg (by decide)]
  simp +decide (disch := omega) only [e206_158, zli, zli8, Nat.add_zero, zpre, ite_self, Nat.reduceAdd, zs1, zs2, zs3, zI_eqb, and_self, not_true_eq_false, if_true, if_false, ite_true, ite_false, not_false_eq_true, zBP, zBZ, zisO, zisA, zlen, decide_true, decide_false, Bool.and_self, Bool.and_true, Bool.true_and, cond_true, cond_false, zBG, zBR, zBU, zBV, zinb_n, zix_n, zlA, zlB, zlM, zlN, zlX, zlI, nI_add, Nat.add_eq_zero_iff, false_and, and_false, and_true, true_and, true_or, or_true, false_or, or_false, zbool_i, zb0, zb1, zshp_0, zcs_eq, zcs_n, zcs_cs, zup_g, zup_n, zg_srock2, zg_stug2, zg_ssun, zg_ssun0, zg_srock, zg_srock0, zg_stug, zg_stug0, zg_sord, zg_sord0, zg_srep, zg_srep0, zg_scla, zg_scla0, zg_scon, zg_scon0, zg_swin, zg_swin0, zg_sleg, zg_sleg0, zg_spro, zg_sstp, zg_swrd, zu_srock2, zu_stug2, zu_ssun, zu_ssun0, zu_srock, zu_srock0, zu_stug, zu_stug0, zu_sord, zu_sord0, zu_srep, zu_srep0, zu_scla, zu_scla0, zu_scon, zu_scon0, zu_swin, zu_swin0, zu_sleg, zu_sleg0, zu_spro, zu_sstp, zu_swrd]
theorem T206_cp5 (d L p0 p2 r2 r3 s4 : Nat) (C : zCt) {k l : Nat} (x2 : Int32) (v5 : Value) (hk : k < 60) (hl : l < 60) : zR d 206 151 [.ref 201, .int (nI l), .int x2, .int (nI (362 + 8 * k)), .int 5, v5] [] (zZ L, zI C, zPd p0 p2 r2 r3 s4) = zR d 206 151 [.ref 201, .int (nI l), .int x2, .int (nI (362 + 8 * k)), .int 6, v5] [] (zZ L, zI (zcs C 45 (zup (C 45) l 5 (C 45 k 5))), zPd p0 p2 r2 r3 s4) := by
  rw [e206_151, if_neg (by decide)]
  simp +decide (disch := omega) only [e206_158, zli, zli8, Nat.add_zero, zpre, ite_self, Nat.reduceAdd, zs1, zs2, zs3, zI_eqb, and_self, not_true_eq_false, if_true, if_false, ite_true, ite_false, not_false_eq_true, zBP, zBZ, zisO, zisA, zlen, decide_true, decide_false, Bool.and_self, Bool.and_true, Bool.true_and, cond_true, cond_false, zBG, zBR, zBU, zBV, zinb_n, zix_n, zlA, zlB, zlM, zlN, zlX, zlI, nI_add, Nat.add_eq_zero_iff, false_and, and_false, and_true, true_and, true_or, or_true, false_or, or_false, zbool_i, zb0, zb1, zshp_0, zcs_eq, zcs_n, zcs_cs, zup_g, zup_n, zg_srock2, zg_stug2, zg_ssun, zg_ssun0, zg_srock, zg_srock0, zg_stug, zg_stug0, zg_sord, zg_sord0, zg_srep, zg_srep0, zg_scla, zg_scla0, zg_scon, zg_scon0, zg_swin, zg_swin0, zg_sleg, zg_sleg0, zg_spro, zg_sstp, zg_swrd, zu_srock2, zu_stug2, zu_ssun, zu_ssun0, zu_srock, zu_srock0, zu_stug, zu_stug0, zu_sord, zu_sord0, zu_srep, zu_srep0, zu_scla, zu_scla0, zu_scon, zu_scon0, zu_swin, zu_swin0, zu_sleg, zu_sleg0, zu_spro, zu_sstp, zu_swrd]
theorem T206_cp6 (d L p0 p2 r2 r3 s4 : Nat) (C : zCt) {k l : Nat} (x2 : Int32) (v5 : Value) (hk : k < 60) (hl : l < 60) : zR d 206 151 [.ref 201, .int (nI l), .int x2, .int (nI (362 + 8 * k)), .int 6, v5] [] (zZ L, zI C, zPd p0 p2 r2 r3 s4) = zR d 206 151 [.ref 201, .int (nI l), .int x2, .int (nI (362 + 8 * k)), .int 7, v5] [] (zZ L, zI (zcs C 45 (zup (C 45) l 6 (C 45 k 6))), zPd p0 p2 r2 r3 s4) := by
  rw [e206_151, if_neg (by decide)]
  simp +decide (disch := omega) only [e206_158, zli, zli8, Nat.add_zero, zpre, ite_self, Nat.reduceAdd, zs1, zs2, zs3, zI_eqb, and_self, not_true_eq_false, if_true, if_false, ite_true, ite_false, not_false_eq_true, zBP, zBZ, zisO, zisA, zlen, decide_true, decide_false, Bool.and_self, Bool.and_true, Bool.true_and, cond_true, cond_false, zBG, zBR, zBU, zBV, zinb_n, zix_n, zlA, zlB, zlM, zlN, zlX, zlI, nI_add, Nat.add_eq_zero_iff, false_and, and_false, and_true, true_and, true_or, or_true, false_or, or_false, zbool_i, zb0, zb1, zshp_0, zcs_eq, zcs_n, zcs_cs, zup_g, zup_n, zg_srock2, zg_stug2, zg_ssun, zg_ssun0, zg_srock, zg_srock0, zg_stug, zg_stug0, zg_sord, zg_sord0, zg_srep, zg_srep0, zg_scla, zg_scla0, zg_scon, zg_scon0, zg_swin, zg_swin0, zg_sleg, zg_sleg0, zg_spro, zg_sstp, zg_swrd, zu_srock2, zu_stug2, zu_ssun, zu_ssun0, zu_srock, zu_srock0, zu_stug, zu_stug0, zu_sord, zu_sord0, zu_srep, zu_srep0, zu_scla, zu_scla0, zu_scon, zu_scon0, zu_swin, zu_swin0, zu_sleg, zu_sleg0, zu_spro, zu_sstp, zu_swrd]
theorem T206_cp7 (d L p0 p2 r2 r3 s4 : Nat) (C : zCt) {k l : Nat} (x2 : Int32) (v5 : Value) (hk : k < 60) (hl : l < 60) : zR d 206 151 [.ref 201, .int (nI l), .int x2, .int (nI (362 + 8 * k)), .int 7, v5] [] (zZ L, zI C, zPd p0 p2 r2 r3 s4) = zR d 206 151 [.ref 201, .int (nI l), .int x2, .int (nI (362 + 8 * k)), .int 8, v5] [] (zZ L, zI (zcs C 45 (zup (C 45) l 7 (C 45 k 7))), zPd p0 p2 r2 r3 s4) := by
  rw [e206_151, if_neg (by decide)]
  simp +decide (disch := omega) only [e206_158, zli, zli8, Nat.add_zero, zpre, ite_self, Nat.reduceAdd, zs1, zs2, zs3, zI_eqb, and_self, not_true_eq_false, if_true, if_false, ite_true, ite_false, not_false_eq_true, zBP, zBZ, zisO, zisA, zlen, decide_true, decide_false, Bool.and_self, Bool.and_true, Bool.true_and, cond_true, cond_false, zBG, zBR, zBU, zBV, zinb_n, zix_n, zlA, zlB, zlM, zlN, zlX, zlI, nI_add, Nat.add_eq_zero_iff, false_and, and_false, and_true, true_and, true_or, or_true, false_or, or_false, zbool_i, zb0, zb1, zshp_0, zcs_eq, zcs_n, zcs_cs, zup_g, zup_n, zg_srock2, zg_stug2, zg_ssun, zg_ssun0, zg_srock, zg_srock0, zg_stug, zg_stug0, zg_sord, zg_sord0, zg_srep, zg_srep0, zg_scla, zg_scla0, zg_scon, zg_scon0, zg_swin, zg_swin0, zg_sleg, zg_sleg0, zg_spro, zg_sstp, zg_swrd, zu_srock2, zu_stug2, zu_ssun, zu_ssun0, zu_srock, zu_srock0, zu_stug, zu_stug0, zu_sord, zu_sord0, zu_srep, zu_srep0, zu_scla, zu_scla0, zu_scon, zu_scon0, zu_swin, zu_swin0, zu_sleg, zu_sleg0, zu_spro, zu_sstp, zu_swrd]
theorem zcr_rep (a : zGp) (l k : Nat) : (zup (zup (zup (zup (zup (zup (zup (zup a l 0 (a k 0)) l 1 ((zup a l 0 (a k 0)) k 1)) l 2 ((zup (zup a l 0 (a k 0)) l 1 ((zup a l 0 (a k 0)) k 1)) k 2)) l 3 ((zup (zup (zup a l 0 (a k 0)) l 1 ((zup a l 0 (a k 0)) k 1)) l 2 ((zup (zup a l 0 (a k 0)) l 1 ((zup a l 0 (a k 0)) k 1)) k 2)) k 3)) l 4 ((zup (zup (zup (zup a l 0 (a k 0)) l 1 ((zup a l 0 (a k 0)) k 1)) l 2 ((zup (zup a l 0 (a k 0)) l 1 ((zup a l 0 (a k 0)) k 1)) k 2)) l 3 ((zup (zup (zup a l 0 (a k 0)) l 1 ((zup a l 0 (a k 0)) k 1)) l 2 ((zup (zup a l 0 (a k 0)) l 1 ((zup a l 0 (a k 0)) k 1)) k 2)) k 3)) k 4)) l 5 ((zup (zup (zup (zup (zup a l 0 (a k 0)) l 1 ((zup a l 0 (a k 0)) k 1)) l 2 ((zup (zup a l 0 (a k 0)) l 1 ((zup a l 0 (a k 0)) k 1)) k 2)) l 3 ((zup (zup (zup a l 0 (a k 0)) l 1 ((zup a l 0 (a k 0)) k 1)) l 2 ((zup (zup a l 0 (a k 0)) l 1 ((zup a l 0 (a k 0)) k 1)) k 2)) k 3)) l 4 ((zup (zup (zup (zup a l 0 (a k 0)) l 1 ((zup a l 0 (a k 0)) k 1)) l 2 ((zup (zup a l 0 (a k 0)) l 1 ((zup a l 0 (a k 0)) k 1)) k 2)) l 3 ((zup (zup (zup a l 0 (a k 0)) l 1 ((zup a l 0 (a k 0)) k 1)) l 2 ((zup (zup a l 0 (a k 0)) l 1 ((zup a l 0 (a k 0)) k 1)) k 2)) k 3)) k 4)) k 5)) l 6 ((zup (zup (zup (zup (zup (zup a l 0 (a k 0)) l 1 ((zup a l 0 (a k 0)) k 1)) l 2 ((zup (zup a l 0 (a k 0)) l 1 ((zup a l 0 (a k 0)) k 1)) k 2)) l 3 ((zup (zup (zup a l 0 (a k 0)) l 1 ((zup a l 0 (a k 0)) k 1)) l 2 ((zup (zup a l 0 (a k 0)) l 1 ((zup a l 0 (a k 0)) k 1)) k 2)) k 3)) l 4 ((zup (zup (zup (zup a l 0 (a k 0)) l 1 ((zup a l 0 (a k 0)) k 1)) l 2 ((zup (zup a l 0 (a k 0)) l 1 ((zup a l 0 (a k 0)) k 1)) k 2)) l 3 ((zup (zup (zup a l 0 (a k 0)) l 1 ((zup a l 0 (a k 0)) k 1)) l 2 ((zup (zup a l 0 (a k 0)) l 1 ((zup a l 0 (a k 0)) k 1)) k 2)) k 3)) k 4)) l 5 ((zup (zup (zup (zup (zup a l 0 (a k 0)) l 1 ((zup a l 0 (a k 0)) k 1)) l 2 ((zup (zup a l 0 (a k 0)) l 1 ((zup a l 0 (a k 0)) k 1)) k 2)) l 3 ((zup (zup (zup a l 0 (a k 0)) l 1 ((zup a l 0 (a k 0)) k 1)) l 2 ((zup (zup a l 0 (a k 0)) l 1 ((zup a l 0 (a k 0)) k 1)) k 2)) k 3)) l 4 ((zup (zup (zup (zup a l 0 (a k 0)) l 1 ((zup a l 0 (a k 0)) k 1)) l 2 ((zup (zup a l 0 (a k 0)) l 1 ((zup a l 0 (a k 0)) k 1)) k 2)) l 3 ((zup (zup (zup a l 0 (a k 0)) l 1 ((zup a l 0 (a k 0)) k 1)) l 2 ((zup (zup a l 0 (a k 0)) l 1 ((zup a l 0 (a k 0)) k 1)) k 2)) k 3)) k 4)) k 5)) k 6)) l 7 ((zup (zup (zup (zup (zup (zup (zup a l 0 (a k 0)) l 1 ((zup a l 0 (a k 0)) k 1)) l 2 ((zup (zup a l 0 (a k 0)) l 1 ((zup a l 0 (a k 0)) k 1)) k 2)) l 3 ((zup (zup (zup a l 0 (a k 0)) l 1 ((zup a l 0 (a k 0)) k 1)) l 2 ((zup (zup a l 0 (a k 0)) l 1 ((zup a l 0 (a k 0)) k 1)) k 2)) k 3)) l 4 ((zup (zup (zup (zup a l 0 (a k 0)) l 1 ((zup a l 0 (a k 0)) k 1)) l 2 ((zup (zup a l 0 (a k 0)) l 1 ((zup a l 0 (a k 0)) k 1)) k 2)) l 3 ((zup (zup (zup a l 0 (a k 0)) l 1 ((zup a l 0 (a k 0)) k 1)) l 2 ((zup (zup a l 0 (a k 0)) l 1 ((zup a l 0 (a k 0)) k 1)) k 2)) k 3)) k 4)) l 5 ((zup (zup (zup (zup (zup a l 0 (a k 0)) l 1 ((zup a l 0 (a k 0)) k 1)) l 2 ((zup (zup a l 0 (a k 0)) l 1 ((zup a l 0 (a k 0)) k 1)) k 2)) l 3 ((zup (zup (zup a l 0 (a k 0)) l 1 ((zup a l 0 (a k 0)) k 1)) l 2 ((zup (zup a l 0 (a k 0)) l 1 ((zup a l 0 (a k 0)) k 1)) k 2)) k 3)) l 4 ((zup (zup (zup (zup a l 0 (a k 0)) l 1 ((zup a l 0 (a k 0)) k 1)) l 2 ((zup (zup a l 0 (a k 0)) l 1 ((zup a l 0 (a k 0)) k 1)) k 2)) l 3 ((zup (zup (zup a l 0 (a k 0)) l 1 ((zup a l 0 (a k 0)) k 1)) l 2 ((zup (zup a l 0 (a k 0)) l 1 ((zup a l 0 (a k 0)) k 1)) k 2)) k 3)) k 4)) k 5)) l 6 ((zup (zup (zup (zup (zup (zup a l 0 (a k 0)) l 1 ((zup a l 0 (a k 0)) k 1)) l 2 ((zup (zup a l 0 (a k 0)) l 1 ((zup a l 0 (a k 0)) k 1)) k 2)) l 3 ((zup (zup (zup a l 0 (a k 0)) l 1 ((zup a l 0 (a k 0)) k 1)) l 2 ((zup (zup a l 0 (a k 0)) l 1 ((zup a l 0 (a k 0)) k 1)) k 2)) k 3)) l 4 ((zup (zup (zup (zup a l 0 (a k 0)) l 1 ((zup a l 0 (a k 0)) k 1)) l 2 ((zup (zup a l 0 (a k 0)) l 1 ((zup a l 0 (a k 0)) k 1)) k 2)) l 3 ((zup (zup (zup a l 0 (a k 0)) l 1 ((zup a l 0 (a k 0)) k 1)) l 2 ((zup (zup a l 0 (a k 0)) l 1 ((zup a l 0 (a k 0)) k 1)) k 2)) k 3)) k 4)) l 5 ((zup (zup (zup (zup (zup a l 0 (a k 0)) l 1 ((zup a l 0 (a k 0)) k 1)) l 2 ((zup (zup a l 0 (a k 0)) l 1 ((zup a l 0 (a k 0)) k 1)) k 2)) l 3 ((zup (zup (zup a l 0 (a k 0)) l 1 ((zup a l 0 (a k 0)) k 1)) l 2 ((zup (zup a l 0 (a k 0)) l 1 ((zup a l 0 (a k 0)) k 1)) k 2)) k 3)) l 4 ((zup (zup (zup (zup a l 0 (a k 0)) l 1 ((zup a l 0 (a k 0)) k 1)) l 2 ((zup (zup a l 0 (a k 0)) l 1 ((zup a l 0 (a k 0)) k 1)) k 2)) l 3 ((zup (zup (zup a l 0 (a k 0)) l 1 ((zup a l 0 (a k 0)) k 1)) l 2 ((zup (zup a l 0 (a k 0)) l 1 ((zup a l 0 (a k 0)) k 1)) k 2)) k 3)) k 4)) k 5)) k 6)) k 7)) = zcr a 8 l k := by
  funext i f
  unfold zcr
  by_cases e : i = l ∧ f < 8
  · rw [if_pos e]
    obtain ⟨rfl, hf⟩ := e
    by_cases ek : k = i
    · subst ek
      rcases (show f = 0 ∨ f = 1 ∨ f = 2 ∨ f = 3 ∨ f = 4 ∨ f = 5 ∨ f = 6 ∨ f = 7 by omega) with rfl | rfl | rfl | rfl | rfl | rfl | rfl | rfl <;> simp (disch := omega) only [zup_g, zup_n]
    · rcases (show f = 0 ∨ f = 1 ∨ f = 2 ∨ f = 3 ∨ f = 4 ∨ f = 5 ∨ f = 6 ∨ f = 7 by omega) with rfl | rfl | rfl | rfl | rfl | rfl | rfl | rfl <;> simp (disch := omega) only [zup_g, zup_n]
  · rw [if_neg e]
    simp (disch := omega) only [zup_n]
theorem T206_copy (d L p0 p2 r2 r3 s4 : Nat) (C : zCt) {k l : Nat} (x2 : Int32) (v4 v5 : Value) (hk : k < 60) (hl : l < 60) : zR d 206 148 [.ref 201, .int (nI l), .int x2, .int (nI (362 + 8 * k)), v4, v5] [] (zZ L, zI C, zPd p0 p2 r2 r3 s4) = zR d 206 4 [.ref 201, .int (nI (l + 1)), .int (x2 + 1), .int (nI (362 + 8 * k)), .int 8, v5] [] (zZ L, zI (zcs C 45 (zcr (C 45) 8 l k)), zPd p0 p2 r2 r3 s4) := by
  rw [e206_148, T206_cp0 d L p0 p2 r2 r3 s4 _ x2 v5 hk hl, T206_cp1 d L p0 p2 r2 r3 s4 _ x2 v5 hk hl, T206_cp2 d L p0 p2 r2 r3 s4 _ x2 v5 hk hl, T206_cp3 d L p0 p2 r2 r3 s4 _ x2 v5 hk hl, T206_cp4 d L p0 p2 r2 r3 s4 _ x2 v5 hk hl, T206_cp5 d L p0 p2 r2 r3 s4 _ x2 v5 hk hl, T206_cp6 d L p0 p2 r2 r3 s4 _ x2 v5 hk hl, T206_cp7 d L p0 p2 r2 r3 s4 _ x2 v5 hk hl, e206_151, if_pos (by decide), e206_189, e206_192, show nI l + 1 = nI (l + 1) from nI_add l 1]
  simp only [zcs_cs, zcs_eq]
  rw [zcr_rep]
theorem zcoW_cla (C : zCt) (k l : Nat) : zcop (zI C) 14 (k * 3) 14 (l * 3) 3 = zI (zcs C 6 (zcr (C 6) 3 l k)) := by
  have hd : ∀ k, zdk 14 k = some (6, k / 3, (k % 3 + 2) % 3) := fun _ => rfl
  funext x j
  unfold zcop
  by_cases e : x = 14
  · subst e
    have e1 : ∀ F, zI (zcs C 6 F) 14 j = F (j / 3) ((j % 3 + 2) % 3) := fun F => by rw [zI_get (hd j), zcs_eq]
    rw [e1]
    unfold zcr
    by_cases h : l * 3 ≤ j ∧ j < l * 3 + 3
    · rw [if_pos ⟨rfl, h⟩, if_pos ⟨by omega, by omega⟩, zI_get (hd _), show (k * 3 + (j - l * 3)) / 3 = k by omega, show (k * 3 + (j - l * 3)) % 3 = j % 3 by omega]
    · rw [if_neg (fun q => h q.2), if_neg (by omega), zI_get (hd _)]
  · rw [if_neg (fun h => e h.1)]
    unfold zI
    cases hk : zdk x j with
    | none => rfl
    | some t =>
      have ht : zdec x j = t := by
        unfold zdk at hk
        split at hk
        · cases hk
        · exact Option.some.inj hk
      show C t.1 t.2.1 t.2.2 = zcs C 6 _ t.1 t.2.1 t.2.2
      unfold zcs
      by_cases hg : t.1 = 6
      · exfalso
        have h1 := zdec_u x j
        rw [ht, hg] at h1
        have h2 : (zunc 6 t.2.1 t.2.2).1 = 14 := rfl
        rw [h1] at h2
        exact e h2
      · rw [if_neg hg]
theorem T45_cla (d L p0 p2 r2 r3 s4 : Nat) (n : Nat) (td : Int32) (hn : n ≤ 20) : ∀ (m k l : Nat) (C : zCt), C 0 0 9 = nI n → k + m = n → l ≤ k → zR d 45 4 [.ref 13, .int td, .int (nI l), .int (nI k)] [] (zZ L, zI C, zPd p0 p2 r2 r3 s4) = some (none, (zZ L, zI (zcs (zcs C 6 (zdu 3 td m k l (C 6)).1) 0 (zup (C 0) 0 9 (nI (zdu 3 td m k l (C 6)).2))), zPd p0 p2 r2 r3 s4)) := by
  intro m
  induction m with
  | zero =>
    intro k l C hC hk hl
    have hk : k = n := by omega
    subst hk
    have h1 : nI k ≤ nI k := Int32.le_refl _
    unfold zdu
    rw [zcs_self, e45_4]
    simp +decide (disch := omega) only [e45_63, hC, h1, zpre, ite_self, zs1, zs2, zs3, zI_eqb, and_self, not_true_eq_false, if_true, if_false, ite_true, ite_false, not_false_eq_true, zBP, zBZ, zisO, zisA, zlen, decide_true, decide_false, Bool.and_self, Bool.and_true, Bool.true_and, cond_true, cond_false, zBG, zBR, zBU, zBV, zinb_n, zix_n, zlA, zlB, zlM, zlN, zlX, zlI, nI_add, Nat.add_eq_zero_iff, false_and, and_false, and_true, true_and, true_or, or_true, false_or, or_false, zbool_i, zb0, zb1, zshp_0, zcs_eq, zcs_n, zcs_cs, zup_g, zup_n, zp2_sun, zp2_rock, zp2_tug, zp2_contract, zp2_window, zp2_code, zp2_rbody, zp2_rstock, zp2_tfree, zp2_thold, zp2_tknown, zp2_ccells, zsh2_sun, zsh2_rock, zsh2_body, zsh2_stock, zsh2_tug, zsh2_free, zsh2_hold, zsh2_known, zsh2_contract, zsh2_window, zsh2_code, zsh2_cells, zg_nsun0, zg_nsun1, zg_nsun2, zg_nrock0, zg_nrock1, zg_nrock2, zg_nrock3, zg_nrock4, zg_nrock5, zg_nrock6, zg_nrock7, zg_nrock8, zg_nrock9, zg_nrock10, zg_nrock11, zg_nrock12, zg_nrock13, zg_nrock14, zg_ntug0, zg_ntug1, zg_ntug2, zg_ntug3, zg_ntug4, zg_ntug5, zg_ntug6, zg_ntug7, zg_ntug8, zg_ntug9, zg_ntug10, zg_ntug11, zg_ntug12, zg_ntug13, zg_ntug14, zg_ntug15, zg_ntug17, zg_ntug18, zg_ntug19, zg_ntug20, zg_ntug21, zg_ntug22, zg_ncon0, zg_ncon1, zg_ncon2, zg_ncon3, zg_ncon4, zg_ncon5, zg_ncon6, zg_nwin0, zg_nwin1, zg_nwin2, zg_nwin3, zg_nwin4, zg_nwin5, zg_ncode0, zg_ncode1, zg_ncode3, zg_nrule, zg_nstock, zg_nhold, zg_nknown, zg_nord, zg_nrep, zg_ncla, zg_ntou, zg_ncel, zu_nsun0, zu_nsun1, zu_nsun2, zu_nrock0, zu_nrock1, zu_nrock2, zu_nrock3, zu_nrock4, zu_nrock5, zu_nrock6, zu_nrock7, zu_nrock8, zu_nrock9, zu_nrock10, zu_nrock11, zu_nrock12, zu_nrock13, zu_nrock14, zu_ntug0, zu_ntug1, zu_ntug2, zu_ntug3, zu_ntug4, zu_ntug5, zu_ntug6, zu_ntug7, zu_ntug8, zu_ntug9, zu_ntug10, zu_ntug11, zu_ntug12, zu_ntug13, zu_ntug14, zu_ntug15, zu_ntug17, zu_ntug18, zu_ntug19, zu_ntug20, zu_ntug21, zu_ntug22, zu_ncon0, zu_ncon1, zu_ncon2, zu_ncon3, zu_ncon4, zu_ncon5, zu_ncon6, zu_nwin0, zu_nwin1, zu_nwin2, zu_nwin3, zu_nwin4, zu_nwin5, zu_ncode3, zu_nrule, zu_nstock, zu_nhold, zu_nknown, zu_nord, zu_nrep, zu_ncla, zu_ntou, zu_ncel]
  | succ m ih =>
    intro k l C hC hk hl
    have hge : ¬ nI n ≤ nI k := nI_ge (by omega) (by omega)
    have hk1 : k * 3 + 3 ≤ 60 := by omega
    have hl1 : l * 3 + 3 ≤ 60 := by omega
    have hz : k * 3 = k * 3 + 0 := rfl
    have hg := zg_ncla C (i := k) (c := 0) (by decide)
    rw [Nat.add_zero] at hg
    unfold zdu
    rw [e45_4]
    by_cases h : C 6 k 2 ≤ td
    · rw [if_pos h, ← ih (k + 1) l C hC (by omega) (by omega)]
      simp +decide (disch := omega) only [e45_12, e45_57, hC, hge, hg, h, Nat.reduceAdd, Nat.reduceMod, zpre, ite_self, zs1, zs2, zs3, zI_eqb, and_self, not_true_eq_false, if_true, if_false, ite_true, ite_false, not_false_eq_true, zBP, zBZ, zisO, zisA, zlen, decide_true, decide_false, Bool.and_self, Bool.and_true, Bool.true_and, cond_true, cond_false, zBG, zBR, zBU, zBV, zinb_n, zix_n, zlA, zlB, zlM, zlN, zlX, zlI, nI_add, Nat.add_eq_zero_iff, false_and, and_false, and_true, true_and, true_or, or_true, false_or, or_false, zbool_i, zb0, zb1, zshp_0, zcs_eq, zcs_n, zcs_cs, zup_g, zup_n, zp2_sun, zp2_rock, zp2_tug, zp2_contract, zp2_window, zp2_code, zp2_rbody, zp2_rstock, zp2_tfree, zp2_thold, zp2_tknown, zp2_ccells, zsh2_sun, zsh2_rock, zsh2_body, zsh2_stock, zsh2_tug, zsh2_free, zsh2_hold, zsh2_known, zsh2_contract, zsh2_window, zsh2_code, zsh2_cells, zg_nsun0, zg_nsun1, zg_nsun2, zg_nrock0, zg_nrock1, zg_nrock2, zg_nrock3, zg_nrock4, zg_nrock5, zg_nrock6, zg_nrock7, zg_nrock8, zg_nrock9, zg_nrock10, zg_nrock11, zg_nrock12, zg_nrock13, zg_nrock14, zg_ntug0, zg_ntug1, zg_ntug2, zg_ntug3, zg_ntug4, zg_ntug5, zg_ntug6, zg_ntug7, zg_ntug8, zg_ntug9, zg_ntug10, zg_ntug11, zg_ntug12, zg_ntug13, zg_ntug14, zg_ntug15, zg_ntug17, zg_ntug18, zg_ntug19, zg_ntug20, zg_ntug21, zg_ntug22, zg_ncon0, zg_ncon1, zg_ncon2, zg_ncon3, zg_ncon4, zg_ncon5, zg_ncon6, zg_nwin0, zg_nwin1, zg_nwin2, zg_nwin3, zg_nwin4, zg_nwin5, zg_ncode0, zg_ncode1, zg_ncode3, zg_nrule, zg_nstock, zg_nhold, zg_nknown, zg_nord, zg_nrep, zg_ncla, zg_ntou, zg_ncel, zu_nsun0, zu_nsun1, zu_nsun2, zu_nrock0, zu_nrock1, zu_nrock2, zu_nrock3, zu_nrock4, zu_nrock5, zu_nrock6, zu_nrock7, zu_nrock8, zu_nrock9, zu_nrock10, zu_nrock11, zu_nrock12, zu_nrock13, zu_nrock14, zu_ntug0, zu_ntug1, zu_ntug2, zu_ntug3, zu_ntug4, zu_ntug5, zu_ntug6, zu_ntug7, zu_ntug8, zu_ntug9, zu_ntug10, zu_ntug11, zu_ntug12, zu_ntug13, zu_ntug14, zu_ntug15, zu_ntug17, zu_ntug18, zu_ntug19, zu_ntug20, zu_ntug21, zu_ntug22, zu_ncon0, zu_ncon1, zu_ncon2, zu_ncon3, zu_ncon4, zu_ncon5, zu_ncon6, zu_nwin0, zu_nwin1, zu_nwin2, zu_nwin3, zu_nwin4, zu_nwin5, zu_ncode3, zu_nrule, zu_nstock, zu_nhold, zu_nknown, zu_nord, zu_nrep, zu_ncla, zu_ntou, zu_ncel]
    · rw [if_neg h]
      have hi := ih (k + 1) (l + 1) (zcs C 6 (zcr (C 6) 3 l k)) (by rw [zcs_n _ _ (by decide)]; exact hC) (by omega) (by omega)
      rw [zcs_eq, zcs_cs, zcs_n _ _ (by decide : (0 : Nat) ≠ 6)] at hi
      rw [← hi]
      simp +decide (disch := omega) only [e45_12, e45_27, e45_57, hC, hge, hg, h, hk1, hl1, zlt0, zcoW_cla, Bool.true_or, Nat.reduceAdd, Nat.reduceMod, zpre, ite_self, zs1, zs2, zs3, zI_eqb, and_self, not_true_eq_false, if_true, if_false, ite_true, ite_false, not_false_eq_true, zBP, zBZ, zisO, zisA, zlen, decide_true, decide_false, Bool.and_self, Bool.and_true, Bool.true_and, cond_true, cond_false, zBG, zBR, zBU, zBV, zinb_n, zix_n, zlA, zlB, zlM, zlN, zlX, zlI, nI_add, Nat.add_eq_zero_iff, false_and, and_false, and_true, true_and, true_or, or_true, false_or, or_false, zbool_i, zb0, zb1, zshp_0, zcs_eq, zcs_n, zcs_cs, zup_g, zup_n, zp2_sun, zp2_rock, zp2_tug, zp2_contract, zp2_window, zp2_code, zp2_rbody, zp2_rstock, zp2_tfree, zp2_thold, zp2_tknown, zp2_ccells, zsh2_sun, zsh2_rock, zsh2_body, zsh2_stock, zsh2_tug, zsh2_free, zsh2_hold, zsh2_known, zsh2_contract, zsh2_window, zsh2_code, zsh2_cells, zg_nsun0, zg_nsun1, zg_nsun2, zg_nrock0, zg_nrock1, zg_nrock2, zg_nrock3, zg_nrock4, zg_nrock5, zg_nrock6, zg_nrock7, zg_nrock8, zg_nrock9, zg_nrock10, zg_nrock11, zg_nrock12, zg_nrock13, zg_nrock14, zg_ntug0, zg_ntug1, zg_ntug2, zg_ntug3, zg_ntug4, zg_ntug5, zg_ntug6, zg_ntug7, zg_ntug8, zg_ntug9, zg_ntug10, zg_ntug11, zg_ntug12, zg_ntug13, zg_ntug14, zg_ntug15, zg_ntug17, zg_ntug18, zg_ntug19, zg_ntug20, zg_ntug21, zg_ntug22, zg_ncon0, zg_ncon1, zg_ncon2, zg_ncon3, zg_ncon4, zg_ncon5, zg_ncon6, zg_nwin0, zg_nwin1, zg_nwin2, zg_nwin3, zg_nwin4, zg_nwin5, zg_ncode0, zg_ncode1, zg_ncode3, zg_nrule, zg_nstock, zg_nhold, zg_nknown, zg_nord, zg_nrep, zg_ncla, zg_ntou, zg_ncel, zu_nsun0, zu_nsun1, zu_nsun2, zu_nrock0, zu_nrock1, zu_nrock2, zu_nrock3, zu_nrock4, zu_nrock5, zu_nrock6, zu_nrock7, zu_nrock8, zu_nrock9, zu_nrock10, zu_nrock11, zu_nrock12, zu_nrock13, zu_nrock14, zu_ntug0, zu_ntug1, zu_ntug2, zu_ntug3, zu_ntug4, zu_ntug5, zu_ntug6, zu_ntug7, zu_ntug8, zu_ntug9, zu_ntug10, zu_ntug11, zu_ntug12, zu_ntug13, zu_ntug14, zu_ntug15, zu_ntug17, zu_ntug18, zu_ntug19, zu_ntug20, zu_ntug21, zu_ntug22, zu_ncon0, zu_ncon1, zu_ncon2, zu_ncon3, zu_ncon4, zu_ncon5, zu_ncon6, zu_nwin0, zu_nwin1, zu_nwin2, zu_nwin3, zu_nwin4, zu_nwin5, zu_ncode3, zu_nrule, zu_nstock, zu_nhold, zu_nknown, zu_nord, zu_nrep, zu_ncla, zu_ntou, zu_ncel]
theorem T207_cp0 (d L p0 p2 r2 r3 s4 : Nat) (C : zCt) {k l : Nat} (x2 : Int32) (hk : k < 20) (hl : l < 20) : zR d 207 99 [.ref 201, .int (nI l), .int x2, .int (nI (842 + 3 * k)), .int 0] [] (zZ L, zI C, zPd p0 p2 r2 r3 s4) = zR d 207 99 [.ref 201, .int (nI l), .int x2, .int (nI (842 + 3 * k)), .int 1] [] (zZ L, zI (zcs C 46 (zup (C 46) l 0 (C 46 k 0))), zPd p0 p2 r2 r3 s4) := by
  rw [e207_99, if_neg (by decide)]
  simp +decide (disch := omega) only [e207_105, zli, zli8, Nat.add_zero, zpre, ite_self, Nat.reduceAdd, zs1, zs2, zs3, zI_eqb, and_self, not_true_eq_false, if_true, if_false, ite_true, ite_false, not_false_eq_true, zBP, zBZ, zisO, zisA, zlen, decide_true, decide_false, Bool.and_self, Bool.and_true, Bool.true_and, cond_true, cond_false, zBG, zBR, zBU, zBV, zinb_n, zix_n, zlA, zlB, zlM, zlN, zlX, zlI, nI_add, Nat.add_eq_zero_iff, false_and, and_false, and_true, true_and, true_or, or_true, false_or, or_false, zbool_i, zb0, zb1, zshp_0, zcs_eq, zcs_n, zcs_cs, zup_g, zup_n, zg_srock2, zg_stug2, zg_ssun, zg_ssun0, zg_srock, zg_srock0, zg_stug, zg_stug0, zg_sord, zg_sord0, zg_srep, zg_srep0, zg_scla, zg_scla0, zg_scon, zg_scon0, zg_swin, zg_swin0, zg_sleg, zg_sleg0, zg_spro, zg_sstp, zg_swrd, zu_srock2, zu_stug2, zu_ssun, zu_ssun0, zu_srock, zu_srock0, zu_stug, zu_stug0, zu_sord, zu_sord0, zu_srep, zu_srep0, zu_scla, zu_scla0, zu_scon, zu_scon0, zu_swin, zu_swin0, zu_sleg, zu_sleg0, zu_spro, zu_sstp, zu_swrd]
theorem T207_cp1 (d L p0 p2 r2 r3 s4 : Nat) (C : zCt) {k l : Nat} (x2 : Int32) (hk : k < 20) (hl : l < 20) : zR d 207 99 [.ref 201, .int (nI l), .int x2, .int (nI (842 + 3 * k)), .int 1] [] (zZ L, zI C, zPd p0 p2 r2 r3 s4) = zR d 207 99 [.ref 201, .int (nI l), .int x2, .int (nI (842 + 3 * k)), .int 2] [] (zZ L, zI (zcs C 46 (zup (C 46) l 1 (C 46 k 1))), zPd p0 p2 r2 r3 s4) := by
  rw [e207_99, if_neg (by decide)]
  simp +decide (disch := omega) only [e207_105, zli, zli8, Nat.add_zero, zpre, ite_self, Nat.reduceAdd, zs1, zs2, zs3, zI_eqb, and_self, not_true_eq_false, if_true, if_false, ite_true, ite_false, not_false_eq_true, zBP, zBZ, zisO, zisA, zlen, decide_true, decide_false, Bool.and_self, Bool.and_true, Bool.true_and, cond_true, cond_false, zBG, zBR, zBU, zBV, zinb_n, zix_n, zlA, zlB, zlM, zlN, zlX, zlI, nI_add, Nat.add_eq_zero_iff, false_and, and_false, and_true, true_and, true_or, or_true, false_or, or_false, zbool_i, zb0, zb1, zshp_0, zcs_eq, zcs_n, zcs_cs, zup_g, zup_n, zg_srock2, zg_stug2, zg_ssun, zg_ssun0, zg_srock, zg_srock0, zg_stug, zg_stug0, zg_sord, zg_sord0, zg_srep, zg_srep0, zg_scla, zg_scla0, zg_scon, zg_scon0, zg_swin, zg_swin0, zg_sleg, zg_sleg0, zg_spro, zg_sstp, zg_swrd, zu_srock2, zu_stug2, zu_ssun, zu_ssun0, zu_srock, zu_srock0, zu_stug, zu_stug0, zu_sord, zu_sord0, zu_srep, zu_srep0, zu_scla, zu_scla0, zu_scon, zu_scon0, zu_swin, zu_swin0, zu_sleg, zu_sleg0, zu_spro, zu_sstp, zu_swrd]
theorem T207_cp2 (d L p0 p2 r2 r3 s4 : Nat) (C : zCt) {k l : Nat} (x2 : Int32) (hk : k < 20) (hl : l < 20) : zR d 207 99 [.ref 201, .int (nI l), .int x2, .int (nI (842 + 3 * k)), .int 2] [] (zZ L, zI C, zPd p0 p2 r2 r3 s4) = zR d 207 99 [.ref 201, .int (nI l), .int x2, .int (nI (842 + 3 * k)), .int 3] [] (zZ L, zI (zcs C 46 (zup (C 46) l 2 (C 46 k 2))), zPd p0 p2 r2 r3 s4) := by
  rw [e207_99, if_neg (by decide)]
  simp +decide (disch := omega) only [e207_105, zli, zli8, Nat.add_zero, zpre, ite_self, Nat.reduceAdd, zs1, zs2, zs3, zI_eqb, and_self, not_true_eq_false, if_true, if_false, ite_true, ite_false, not_false_eq_true, zBP, zBZ, zisO, zisA, zlen, decide_true, decide_false, Bool.and_self, Bool.and_true, Bool.true_and, cond_true, cond_false, zBG, zBR, zBU, zBV, zinb_n, zix_n, zlA, zlB, zlM, zlN, zlX, zlI, nI_add, Nat.add_eq_zero_iff, false_and, and_false, and_true, true_and, true_or, or_true, false_or, or_false, zbool_i, zb0, zb1, zshp_0, zcs_eq, zcs_n, zcs_cs, zup_g, zup_n, zg_srock2, zg_stug2, zg_ssun, zg_ssun0, zg_srock, zg_srock0, zg_stug, zg_stug0, zg_sord, zg_sord0, zg_srep, zg_srep0, zg_scla, zg_scla0, zg_scon, zg_scon0, zg_swin, zg_swin0, zg_sleg, zg_sleg0, zg_spro, zg_sstp, zg_swrd, zu_srock2, zu_stug2, zu_ssun, zu_ssun0, zu_srock, zu_srock0, zu_stug, zu_stug0, zu_sord, zu_sord0, zu_srep, zu_srep0, zu_scla, zu_scla0, zu_scon, zu_scon0, zu_swin, zu_swin0, zu_sleg, zu_sleg0, zu_spro, zu_sstp, zu_swrd]
theorem zcr_cla (a : zGp) (l k : Nat) : (zup (zup (zup a l 0 (a k 0)) l 1 ((zup a l 0 (a k 0)) k 1)) l 2 ((zup (zup a l 0 (a k 0)) l 1 ((zup a l 0 (a k 0)) k 1)) k 2)) = zcr a 3 l k := by
  funext i f
  unfold zcr
  by_cases e : i = l ∧ f < 3
  · rw [if_pos e]
    obtain ⟨rfl, hf⟩ := e
    by_cases ek : k = i
    · subst ek
      rcases (show f = 0 ∨ f = 1 ∨ f = 2 by omega) with rfl | rfl | rfl <;> simp (disch := omega) only [zup_g, zup_n]
    · rcases (show f = 0 ∨ f = 1 ∨ f = 2 by omega) with rfl | rfl | rfl <;> simp (disch := omega) only [zup_g, zup_n]
  · rw [if_neg e]
    simp (disch := omega) only [zup_n]
theorem T207_copy (d L p0 p2 r2 r3 s4 : Nat) (C : zCt) {k l : Nat} (x2 : Int32) (v4 : Value) (hk : k < 20) (hl : l < 20) : zR d 207 96 [.ref 201, .int (nI l), .int x2, .int (nI (842 + 3 * k)), v4] [] (zZ L, zI C, zPd p0 p2 r2 r3 s4) = zR d 207 4 [.ref 201, .int (nI (l + 1)), .int (x2 + 1), .int (nI (842 + 3 * k)), .int 3] [] (zZ L, zI (zcs C 46 (zcr (C 46) 3 l k)), zPd p0 p2 r2 r3 s4) := by
  rw [e207_96, T207_cp0 d L p0 p2 r2 r3 s4 _ x2 hk hl, T207_cp1 d L p0 p2 r2 r3 s4 _ x2 hk hl, T207_cp2 d L p0 p2 r2 r3 s4 _ x2 hk hl, e207_99, if_pos (by decide), e207_135, e207_138, show nI l + 1 = nI (l + 1) from nI_add l 1]
  simp only [zcs_cs, zcs_eq]
  rw [zcr_cla]
