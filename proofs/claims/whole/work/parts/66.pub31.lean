/-! THE RUN: the drift, printed by wip/gen/pub31.py -/
theorem e229_2v (d : Nat) (Z : List (Nat × Nat)) (I : Nat → Nat → Int32) (P : Nat → Nat → Nat) (r0 : Nat) (x1 : Int32) (v2 : Value) : zR d 229 2 [.ref r0, .int x1, v2] [] (Z, I, P) = bif ((zisO Z r0 12 && decide (¬ P r0 0 = 0)) && ((zisA Z (P r0 0) 1 && zinb 5 (zlen Z (P r0 0))) && (true))) then (if (I (P r0 0) (zix 5)) ≤ x1 then zR d 229 57 [.ref r0, .int x1, v2] [] (Z, I, P) else zR d 229 12 [.ref r0, .int x1, v2] [] (Z, I, P)) else none := zE_br (g := ((zisO Z r0 12 && decide (¬ P r0 0 = 0)) && ((zisA Z (P r0 0) 1 && zinb 5 (zlen Z (P r0 0))) && (true)))) (p := (I (P r0 0) (zix 5)) ≤ x1) (t := 57) (f := 12) zK229 rfl zi229 2 6 rfl
theorem e229_59v (d : Nat) (Z : List (Nat × Nat)) (I : Nat → Nat → Int32) (P : Nat → Nat → Nat) (r0 : Nat) (x1 : Int32) (v2 : Value) : zR d 229 59 [.ref r0, .int x1, v2] [] (Z, I, P) = bif ((zisO Z r0 12 && decide (¬ P r0 0 = 0)) && ((zisA Z (P r0 0) 1 && zinb 6 (zlen Z (P r0 0))) && (true))) then (if (I (P r0 0) (zix 6)) ≤ x1 then zR d 229 119 [.ref r0, .int x1, v2] [] (Z, I, P) else zR d 229 70 [.ref r0, .int x1, v2] [] (Z, I, P)) else none := zE_br (g := ((zisO Z r0 12 && decide (¬ P r0 0 = 0)) && ((zisA Z (P r0 0) 1 && zinb 6 (zlen Z (P r0 0))) && (true)))) (p := (I (P r0 0) (zix 6)) ≤ x1) (t := 119) (f := 70) zK229 rfl zi229 39 6 rfl
/-- rows k .. n-1 have new bodies, the rest stays -/
def zBy (F a : zGp) (Q : Nat → zQ) (sel : Nat → Prop) (k n : Nat) : Prop := (∀ i, k ≤ i → i < n → sel i → zqd (F i) 1 = Q i) ∧ (∀ i, ¬ (k ≤ i ∧ i < n ∧ sel i) → ∀ f, F i f = a i f) ∧ ∀ i f, ¬ (1 ≤ f ∧ f ≤ 4) → F i f = a i f
theorem zBy_0 {a : zGp} {Q : Nat → zQ} {sel : Nat → Prop} {n : Nat} : zBy a a Q sel n n := ⟨fun i h1 h2 => absurd h2 (by omega), fun _ _ _ => rfl, fun _ _ _ => rfl⟩
theorem zBy_st {F a : zGp} {Q : Nat → zQ} {sel : Nat → Prop} {k n : Nat} (hk : k < n) (G : zGp) (hG1 : zqd (G k) 1 = Q k) (hG2 : ∀ i f, ¬ (i = k ∧ 1 ≤ f ∧ f ≤ 4) → G i f = a i f) (hs : sel k) (h : zBy F G Q sel (k + 1) n) : zBy F a Q sel k n := by
  obtain ⟨h1, h2, h3⟩ := h
  refine ⟨fun i e1 e2 e3 => ?_, fun i e f => ?_, fun i f hf => ?_⟩
  · by_cases e : i = k
    · subst e
      have : zqd (F i) 1 = zqd (G i) 1 := by
        unfold zqd
        rw [h2 i (by omega), h2 i (by omega), h2 i (by omega), h2 i (by omega)]
      rw [this]; exact hG1
    · exact h1 i (by omega) e2 e3
  · by_cases ek : i = k
    · subst ek; exact absurd ⟨Nat.le_refl _, hk, hs⟩ e
    · rw [h2 i (fun q => e ⟨by omega, q.2.1, q.2.2⟩) f]
      exact hG2 i f (fun q => ek q.1)
  · rw [h3 i f hf]
    exact hG2 i f (fun q => hf q.2)
theorem zBy_no {F a : zGp} {Q : Nat → zQ} {sel : Nat → Prop} {k n : Nat} (hs : ¬ sel k) (h : zBy F a Q sel (k + 1) n) : zBy F a Q sel k n := by
  obtain ⟨h1, h2, h3⟩ := h
  refine ⟨fun i e1 e2 e3 => ?_, fun i e f => ?_, h3⟩
  · by_cases e : i = k
    · subst e; exact absurd e3 hs
    · exact h1 i (by omega) e2 e3
  · exact h2 i (fun q => e ⟨by omega, q.2.1, q.2.2⟩) f
theorem zbd_1 (a : zGp) (k : Nat) (q : zQ) : zqd (zbd a k 1 q k) 1 = q ∧ ∀ i f, ¬ (i = k ∧ 1 ≤ f ∧ f ≤ 4) → zbd a k 1 q i f = a i f := ⟨zbd_q a k 1 q, fun i f h => zbd_o a q (by omega)⟩
theorem Q97_r (d L p0 p2 r2 r3 s4 : Nat) (ns n : Nat) (S : zGp) (Q0 : Nat → zQ) (hs3 : ns ≤ 3) (hn8 : n ≤ 8) : ∀ (m k : Nat) (C : zCt), C 0 0 4 = nI ns → C 0 0 5 = nI n → C 1 = S → (∀ i, k ≤ i → i < n → zqd (C 2 i) 1 = Q0 i) → k + m = n → ∃ F, zR (d + 5) 97 2 [.ref 2, .int (nI k)] [] (zZ L, zI C, zPd p0 p2 r2 r3 s4) = zR (d + 5) 97 31 [.ref 2, .int 0] [] (zZ L, zI (zcs C 2 F), zPd p0 p2 r2 r3 s4) ∧ zBy F (C 2) (fun i => zdr S ns (Q0 i)) (fun _ => True) k n := by
  intro m
  induction m with
  | zero =>
    intro k C hs hn hS hQ hk
    have hk : k = n := by omega
    subst hk
    have h1 : nI k ≤ nI k := Int32.le_refl _
    refine ⟨C 2, ?_, zBy_0⟩
    rw [zcs_self, e97_2]
    simp +decide (disch := omega) only [e97_29, hn, h1, zpre, ite_self, zs1, zs2, zs3, zI_eqb, and_self, not_true_eq_false, if_true, if_false, ite_true, ite_false, not_false_eq_true, zBP, zBZ, zisO, zisA, zlen, decide_true, decide_false, Bool.and_self, Bool.and_true, Bool.true_and, cond_true, cond_false, zBG, zBR, zBU, zBV, zinb_n, zix_n, zlA, zlB, zlM, zlN, zlX, zlI, nI_add, Nat.add_eq_zero_iff, false_and, and_false, and_true, true_and, true_or, or_true, false_or, or_false, zbool_i, zb0, zb1, zshp_0, zcs_eq, zcs_n, zcs_cs, zup_g, zup_n, zp2_sun, zp2_rock, zp2_tug, zp2_contract, zp2_window, zp2_code, zp2_rbody, zp2_rstock, zp2_tfree, zp2_thold, zp2_tknown, zp2_ccells, zsh2_sun, zsh2_rock, zsh2_body, zsh2_stock, zsh2_tug, zsh2_free, zsh2_hold, zsh2_known, zsh2_contract, zsh2_window, zsh2_code, zsh2_cells, zg_nsun0, zg_nsun1, zg_nsun2, zg_nrock0, zg_nrock1, zg_nrock2, zg_nrock3, zg_nrock4, zg_nrock5, zg_nrock6, zg_nrock7, zg_nrock8, zg_nrock9, zg_nrock10, zg_nrock11, zg_nrock12, zg_nrock13, zg_nrock14, zg_ntug0, zg_ntug1, zg_ntug2, zg_ntug3, zg_ntug4, zg_ntug5, zg_ntug6, zg_ntug7, zg_ntug8, zg_ntug9, zg_ntug10, zg_ntug11, zg_ntug12, zg_ntug13, zg_ntug14, zg_ntug15, zg_ntug17, zg_ntug18, zg_ntug19, zg_ntug20, zg_ntug21, zg_ntug22, zg_ncon0, zg_ncon1, zg_ncon2, zg_ncon3, zg_ncon4, zg_ncon5, zg_ncon6, zg_nwin0, zg_nwin1, zg_nwin2, zg_nwin3, zg_nwin4, zg_nwin5, zg_ncode0, zg_ncode1, zg_ncode3, zg_nrule, zg_nstock, zg_nhold, zg_nknown, zg_nord, zg_nrep, zg_ncla, zg_ntou, zg_ncel, zu_nsun0, zu_nsun1, zu_nsun2, zu_nrock0, zu_nrock1, zu_nrock2, zu_nrock3, zu_nrock4, zu_nrock5, zu_nrock6, zu_nrock7, zu_nrock8, zu_nrock9, zu_nrock10, zu_nrock11, zu_nrock12, zu_nrock13, zu_nrock14, zu_ntug0, zu_ntug1, zu_ntug2, zu_ntug3, zu_ntug4, zu_ntug5, zu_ntug6, zu_ntug7, zu_ntug8, zu_ntug9, zu_ntug10, zu_ntug11, zu_ntug12, zu_ntug13, zu_ntug14, zu_ntug15, zu_ntug17, zu_ntug18, zu_ntug19, zu_ntug20, zu_ntug21, zu_ntug22, zu_ncon0, zu_ncon1, zu_ncon2, zu_ncon3, zu_ncon4, zu_ncon5, zu_ncon6, zu_nwin0, zu_nwin1, zu_nwin2, zu_nwin3, zu_nwin4, zu_nwin5, zu_ncode3, zu_nrule, zu_nstock, zu_nhold, zu_nknown, zu_nord, zu_nrep, zu_ncla, zu_ntou, zu_ncel]
  | succ m ih =>
    intro k C hs hn hS hQ hk
    have hge : ¬ nI n ≤ nI k := nI_ge (by omega) (by omega)
    have hk8 : k < 8 := by omega
    have h98 := T98r d L p0 p2 r2 r3 s4 ns C hk8 hs3 hs
    obtain ⟨G, hG⟩ : ∃ G, G = zbd (C 2) k 1 (zdr (C 1) ns (zqd (C 2 k) 1)) := ⟨_, rfl⟩
    rw [← hG] at h98
    obtain ⟨z1, z2⟩ := zbd_1 (C 2) k (zdr (C 1) ns (zqd (C 2 k) 1))
    rw [← hG] at z1 z2
    obtain ⟨F, f1, f2⟩ := ih (k + 1) (zcs C 2 G) (by rw [zcs_n _ _ (by decide)]; exact hs) (by rw [zcs_n _ _ (by decide)]; exact hn) (by rw [zcs_n _ _ (by decide)]; exact hS) (fun i e1 e2 => by
      rw [zcs_eq, ← hQ i (by omega) e2]
      unfold zqd
      rw [z2 i _ (by omega), z2 i _ (by omega), z2 i _ (by omega), z2 i _ (by omega)]) (by omega)
    rw [zcs_cs] at f1
    rw [zcs_eq] at f2
    refine ⟨F, ?_, zBy_st (by omega) G (by rw [z1, hS, hQ k (by omega) (by omega)]) z2 trivial f2⟩
    rw [← f1, e97_2]
    simp +decide (disch := omega) only [e97_10, e97_23, hn, hge, h98, zpre, ite_self, zs1, zs2, zs3, zI_eqb, and_self, not_true_eq_false, if_true, if_false, ite_true, ite_false, not_false_eq_true, zBP, zBZ, zisO, zisA, zlen, decide_true, decide_false, Bool.and_self, Bool.and_true, Bool.true_and, cond_true, cond_false, zBG, zBR, zBU, zBV, zinb_n, zix_n, zlA, zlB, zlM, zlN, zlX, zlI, nI_add, Nat.add_eq_zero_iff, false_and, and_false, and_true, true_and, true_or, or_true, false_or, or_false, zbool_i, zb0, zb1, zshp_0, zcs_eq, zcs_n, zcs_cs, zup_g, zup_n, zp2_sun, zp2_rock, zp2_tug, zp2_contract, zp2_window, zp2_code, zp2_rbody, zp2_rstock, zp2_tfree, zp2_thold, zp2_tknown, zp2_ccells, zsh2_sun, zsh2_rock, zsh2_body, zsh2_stock, zsh2_tug, zsh2_free, zsh2_hold, zsh2_known, zsh2_contract, zsh2_window, zsh2_code, zsh2_cells, zg_nsun0, zg_nsun1, zg_nsun2, zg_nrock0, zg_nrock1, zg_nrock2, zg_nrock3, zg_nrock4, zg_nrock5, zg_nrock6, zg_nrock7, zg_nrock8, zg_nrock9, zg_nrock10, zg_nrock11, zg_nrock12, zg_nrock13, zg_nrock14, zg_ntug0, zg_ntug1, zg_ntug2, zg_ntug3, zg_ntug4, zg_ntug5, zg_ntug6, zg_ntug7, zg_ntug8, zg_ntug9, zg_ntug10, zg_ntug11, zg_ntug12, zg_ntug13, zg_ntug14, zg_ntug15, zg_ntug17, zg_ntug18, zg_ntug19, zg_ntug20, zg_ntug21, zg_ntug22, zg_ncon0, zg_ncon1, zg_ncon2, zg_ncon3, zg_ncon4, zg_ncon5, zg_ncon6, zg_nwin0, zg_nwin1, zg_nwin2, zg_nwin3, zg_nwin4, zg_nwin5, zg_ncode0, zg_ncode1, zg_ncode3, zg_nrule, zg_nstock, zg_nhold, zg_nknown, zg_nord, zg_nrep, zg_ncla, zg_ntou, zg_ncel, zu_nsun0, zu_nsun1, zu_nsun2, zu_nrock0, zu_nrock1, zu_nrock2, zu_nrock3, zu_nrock4, zu_nrock5, zu_nrock6, zu_nrock7, zu_nrock8, zu_nrock9, zu_nrock10, zu_nrock11, zu_nrock12, zu_nrock13, zu_nrock14, zu_ntug0, zu_ntug1, zu_ntug2, zu_ntug3, zu_ntug4, zu_ntug5, zu_ntug6, zu_ntug7, zu_ntug8, zu_ntug9, zu_ntug10, zu_ntug11, zu_ntug12, zu_ntug13, zu_ntug14, zu_ntug15, zu_ntug17, zu_ntug18, zu_ntug19, zu_ntug20, zu_ntug21, zu_ntug22, zu_ncon0, zu_ncon1, zu_ncon2, zu_ncon3, zu_ncon4, zu_ncon5, zu_ncon6, zu_nwin0, zu_nwin1, zu_nwin2, zu_nwin3, zu_nwin4, zu_nwin5, zu_ncode3, zu_nrule, zu_nstock, zu_nhold, zu_nknown, zu_nord, zu_nrep, zu_ncla, zu_ntou, zu_ncel]
theorem Q97_t (d L p0 p2 r2 r3 s4 : Nat) (ns n nt : Nat) (S : zGp) (Q0 : Nat → zQ) (hs3 : ns ≤ 3) (hn8 : n ≤ 8) (ht4 : nt ≤ 4) (sel : Nat → Prop) : ∀ (m k : Nat) (C : zCt), C 0 0 4 = nI ns → C 0 0 5 = nI n → C 0 0 6 = nI nt → C 1 = S → (∀ i, k ≤ i → i < nt → zqd (C 3 i) 1 = Q0 i ∧ (sel i ↔ ¬ (0 ≤ C 3 i 9 ∧ ¬ nI n ≤ C 3 i 9))) → k + m = nt → ∃ F, zR (d + 5) 97 31 [.ref 2, .int (nI k)] [] (zZ L, zI C, zPd p0 p2 r2 r3 s4) = some (none, (zZ L, zI (zcs C 3 F), zPd p0 p2 r2 r3 s4)) ∧ zBy F (C 3) (fun i => zdr S ns (Q0 i)) sel k nt := by
  intro m
  induction m with
  | zero =>
    intro k C hs hn ht hS hQ hk
    have hk : k = nt := by omega
    subst hk
    have h1 : nI k ≤ nI k := Int32.le_refl _
    refine ⟨C 3, ?_, zBy_0⟩
    rw [zcs_self, e97_31]
    simp +decide (disch := omega) only [e97_71, ht, h1, zpre, ite_self, zs1, zs2, zs3, zI_eqb, and_self, not_true_eq_false, if_true, if_false, ite_true, ite_false, not_false_eq_true, zBP, zBZ, zisO, zisA, zlen, decide_true, decide_false, Bool.and_self, Bool.and_true, Bool.true_and, cond_true, cond_false, zBG, zBR, zBU, zBV, zinb_n, zix_n, zlA, zlB, zlM, zlN, zlX, zlI, nI_add, Nat.add_eq_zero_iff, false_and, and_false, and_true, true_and, true_or, or_true, false_or, or_false, zbool_i, zb0, zb1, zshp_0, zcs_eq, zcs_n, zcs_cs, zup_g, zup_n, zp2_sun, zp2_rock, zp2_tug, zp2_contract, zp2_window, zp2_code, zp2_rbody, zp2_rstock, zp2_tfree, zp2_thold, zp2_tknown, zp2_ccells, zsh2_sun, zsh2_rock, zsh2_body, zsh2_stock, zsh2_tug, zsh2_free, zsh2_hold, zsh2_known, zsh2_contract, zsh2_window, zsh2_code, zsh2_cells, zg_nsun0, zg_nsun1, zg_nsun2, zg_nrock0, zg_nrock1, zg_nrock2, zg_nrock3, zg_nrock4, zg_nrock5, zg_nrock6, zg_nrock7, zg_nrock8, zg_nrock9, zg_nrock10, zg_nrock11, zg_nrock12, zg_nrock13, zg_nrock14, zg_ntug0, zg_ntug1, zg_ntug2, zg_ntug3, zg_ntug4, zg_ntug5, zg_ntug6, zg_ntug7, zg_ntug8, zg_ntug9, zg_ntug10, zg_ntug11, zg_ntug12, zg_ntug13, zg_ntug14, zg_ntug15, zg_ntug17, zg_ntug18, zg_ntug19, zg_ntug20, zg_ntug21, zg_ntug22, zg_ncon0, zg_ncon1, zg_ncon2, zg_ncon3, zg_ncon4, zg_ncon5, zg_ncon6, zg_nwin0, zg_nwin1, zg_nwin2, zg_nwin3, zg_nwin4, zg_nwin5, zg_ncode0, zg_ncode1, zg_ncode3, zg_nrule, zg_nstock, zg_nhold, zg_nknown, zg_nord, zg_nrep, zg_ncla, zg_ntou, zg_ncel, zu_nsun0, zu_nsun1, zu_nsun2, zu_nrock0, zu_nrock1, zu_nrock2, zu_nrock3, zu_nrock4, zu_nrock5, zu_nrock6, zu_nrock7, zu_nrock8, zu_nrock9, zu_nrock10, zu_nrock11, zu_nrock12, zu_nrock13, zu_nrock14, zu_ntug0, zu_ntug1, zu_ntug2, zu_ntug3, zu_ntug4, zu_ntug5, zu_ntug6, zu_ntug7, zu_ntug8, zu_ntug9, zu_ntug10, zu_ntug11, zu_ntug12, zu_ntug13, zu_ntug14, zu_ntug15, zu_ntug17, zu_ntug18, zu_ntug19, zu_ntug20, zu_ntug21, zu_ntug22, zu_ncon0, zu_ncon1, zu_ncon2, zu_ncon3, zu_ncon4, zu_ncon5, zu_ncon6, zu_nwin0, zu_nwin1, zu_nwin2, zu_nwin3, zu_nwin4, zu_nwin5, zu_ncode3, zu_nrule, zu_nstock, zu_nhold, zu_nknown, zu_nord, zu_nrep, zu_ncla, zu_ntou, zu_ncel]
  | succ m ih =>
    intro k C hs hn ht hS hQ hk
    have hge : ¬ nI nt ≤ nI k := nI_ge (by omega) (by omega)
    have hk4 : k < 4 := by omega
    obtain ⟨q0, q9⟩ := hQ k (by omega) (by omega)
    by_cases hsel : sel k
    · have hnd := q9.mp hsel
      have h98 := T98t d L p0 p2 r2 r3 s4 ns C hk4 hs3 hs
      obtain ⟨G, hG⟩ : ∃ G, G = zbd (C 3) k 1 (zdr (C 1) ns (zqd (C 3 k) 1)) := ⟨_, rfl⟩
      rw [← hG] at h98
      obtain ⟨z1, z2⟩ := zbd_1 (C 3) k (zdr (C 1) ns (zqd (C 3 k) 1))
      rw [← hG] at z1 z2
      obtain ⟨F, f1, f2⟩ := ih (k + 1) (zcs C 3 G) (by rw [zcs_n _ _ (by decide)]; exact hs) (by rw [zcs_n _ _ (by decide)]; exact hn) (by rw [zcs_n _ _ (by decide)]; exact ht) (by rw [zcs_n _ _ (by decide)]; exact hS) (fun i e1 e2 => by
        rw [zcs_eq, z2 i 9 (by omega)]
        refine ⟨?_, (hQ i (by omega) e2).2⟩
        rw [← (hQ i (by omega) e2).1]
        unfold zqd
        rw [z2 i _ (by omega), z2 i _ (by omega), z2 i _ (by omega), z2 i _ (by omega)]) (by omega)
      rw [zcs_cs] at f1
      rw [zcs_eq] at f2
      refine ⟨F, ?_, zBy_st (by omega) G (by rw [z1, hS, q0]) z2 hsel f2⟩
      rw [← f1, e97_31]
      simp +decide (disch := omega) only [e97_39, e97_49, e97_52, e97_65, e87_0, e87_8, T85, hn, ht, hge, hnd, h98, zpre, ite_self, zs1, zs2, zs3, zI_eqb, and_self, not_true_eq_false, if_true, if_false, ite_true, ite_false, not_false_eq_true, zBP, zBZ, zisO, zisA, zlen, decide_true, decide_false, Bool.and_self, Bool.and_true, Bool.true_and, cond_true, cond_false, zBG, zBR, zBU, zBV, zinb_n, zix_n, zlA, zlB, zlM, zlN, zlX, zlI, nI_add, Nat.add_eq_zero_iff, false_and, and_false, and_true, true_and, true_or, or_true, false_or, or_false, zbool_i, zb0, zb1, zshp_0, zcs_eq, zcs_n, zcs_cs, zup_g, zup_n, zp2_sun, zp2_rock, zp2_tug, zp2_contract, zp2_window, zp2_code, zp2_rbody, zp2_rstock, zp2_tfree, zp2_thold, zp2_tknown, zp2_ccells, zsh2_sun, zsh2_rock, zsh2_body, zsh2_stock, zsh2_tug, zsh2_free, zsh2_hold, zsh2_known, zsh2_contract, zsh2_window, zsh2_code, zsh2_cells, zg_nsun0, zg_nsun1, zg_nsun2, zg_nrock0, zg_nrock1, zg_nrock2, zg_nrock3, zg_nrock4, zg_nrock5, zg_nrock6, zg_nrock7, zg_nrock8, zg_nrock9, zg_nrock10, zg_nrock11, zg_nrock12, zg_nrock13, zg_nrock14, zg_ntug0, zg_ntug1, zg_ntug2, zg_ntug3, zg_ntug4, zg_ntug5, zg_ntug6, zg_ntug7, zg_ntug8, zg_ntug9, zg_ntug10, zg_ntug11, zg_ntug12, zg_ntug13, zg_ntug14, zg_ntug15, zg_ntug17, zg_ntug18, zg_ntug19, zg_ntug20, zg_ntug21, zg_ntug22, zg_ncon0, zg_ncon1, zg_ncon2, zg_ncon3, zg_ncon4, zg_ncon5, zg_ncon6, zg_nwin0, zg_nwin1, zg_nwin2, zg_nwin3, zg_nwin4, zg_nwin5, zg_ncode0, zg_ncode1, zg_ncode3, zg_nrule, zg_nstock, zg_nhold, zg_nknown, zg_nord, zg_nrep, zg_ncla, zg_ntou, zg_ncel, zu_nsun0, zu_nsun1, zu_nsun2, zu_nrock0, zu_nrock1, zu_nrock2, zu_nrock3, zu_nrock4, zu_nrock5, zu_nrock6, zu_nrock7, zu_nrock8, zu_nrock9, zu_nrock10, zu_nrock11, zu_nrock12, zu_nrock13, zu_nrock14, zu_ntug0, zu_ntug1, zu_ntug2, zu_ntug3, zu_ntug4, zu_ntug5, zu_ntug6, zu_ntug7, zu_ntug8, zu_ntug9, zu_ntug10, zu_ntug11, zu_ntug12, zu_ntug13, zu_ntug14, zu_ntug15, zu_ntug17, zu_ntug18, zu_ntug19, zu_ntug20, zu_ntug21, zu_ntug22, zu_ncon0, zu_ncon1, zu_ncon2, zu_ncon3, zu_ncon4, zu_ncon5, zu_ncon6, zu_nwin0, zu_nwin1, zu_nwin2, zu_nwin3, zu_nwin4, zu_nwin5, zu_ncode3, zu_nrule, zu_nstock, zu_nhold, zu_nknown, zu_nord, zu_nrep, zu_ncla, zu_ntou, zu_ncel]
    · have hd : 0 ≤ C 3 k 9 ∧ ¬ nI n ≤ C 3 k 9 := Classical.byContradiction (fun q => hsel (q9.mpr q))
      obtain ⟨F, f1, f2⟩ := ih (k + 1) C hs hn ht hS (fun i e1 e2 => hQ i (by omega) e2) (by omega)
      refine ⟨F, ?_, zBy_no hsel f2⟩
      rw [← f1, e97_31]
      simp +decide (disch := omega) only [e97_39, e97_49, e97_65, e87_0, e87_8, T85, hn, ht, hge, hd, zpre, ite_self, zs1, zs2, zs3, zI_eqb, and_self, not_true_eq_false, if_true, if_false, ite_true, ite_false, not_false_eq_true, zBP, zBZ, zisO, zisA, zlen, decide_true, decide_false, Bool.and_self, Bool.and_true, Bool.true_and, cond_true, cond_false, zBG, zBR, zBU, zBV, zinb_n, zix_n, zlA, zlB, zlM, zlN, zlX, zlI, nI_add, Nat.add_eq_zero_iff, false_and, and_false, and_true, true_and, true_or, or_true, false_or, or_false, zbool_i, zb0, zb1, zshp_0, zcs_eq, zcs_n, zcs_cs, zup_g, zup_n, zp2_sun, zp2_rock, zp2_tug, zp2_contract, zp2_window, zp2_code, zp2_rbody, zp2_rstock, zp2_tfree, zp2_thold, zp2_tknown, zp2_ccells, zsh2_sun, zsh2_rock, zsh2_body, zsh2_stock, zsh2_tug, zsh2_free, zsh2_hold, zsh2_known, zsh2_contract, zsh2_window, zsh2_code, zsh2_cells, zg_nsun0, zg_nsun1, zg_nsun2, zg_nrock0, zg_nrock1, zg_nrock2, zg_nrock3, zg_nrock4, zg_nrock5, zg_nrock6, zg_nrock7, zg_nrock8, zg_nrock9, zg_nrock10, zg_nrock11, zg_nrock12, zg_nrock13, zg_nrock14, zg_ntug0, zg_ntug1, zg_ntug2, zg_ntug3, zg_ntug4, zg_ntug5, zg_ntug6, zg_ntug7, zg_ntug8, zg_ntug9, zg_ntug10, zg_ntug11, zg_ntug12, zg_ntug13, zg_ntug14, zg_ntug15, zg_ntug17, zg_ntug18, zg_ntug19, zg_ntug20, zg_ntug21, zg_ntug22, zg_ncon0, zg_ncon1, zg_ncon2, zg_ncon3, zg_ncon4, zg_ncon5, zg_ncon6, zg_nwin0, zg_nwin1, zg_nwin2, zg_nwin3, zg_nwin4, zg_nwin5, zg_ncode0, zg_ncode1, zg_ncode3, zg_nrule, zg_nstock, zg_nhold, zg_nknown, zg_nord, zg_nrep, zg_ncla, zg_ntou, zg_ncel, zu_nsun0, zu_nsun1, zu_nsun2, zu_nrock0, zu_nrock1, zu_nrock2, zu_nrock3, zu_nrock4, zu_nrock5, zu_nrock6, zu_nrock7, zu_nrock8, zu_nrock9, zu_nrock10, zu_nrock11, zu_nrock12, zu_nrock13, zu_nrock14, zu_ntug0, zu_ntug1, zu_ntug2, zu_ntug3, zu_ntug4, zu_ntug5, zu_ntug6, zu_ntug7, zu_ntug8, zu_ntug9, zu_ntug10, zu_ntug11, zu_ntug12, zu_ntug13, zu_ntug14, zu_ntug15, zu_ntug17, zu_ntug18, zu_ntug19, zu_ntug20, zu_ntug21, zu_ntug22, zu_ncon0, zu_ncon1, zu_ncon2, zu_ncon3, zu_ncon4, zu_ncon5, zu_ncon6, zu_nwin0, zu_nwin1, zu_nwin2, zu_nwin3, zu_nwin4, zu_nwin5, zu_ncode3, zu_nrule, zu_nstock, zu_nhold, zu_nknown, zu_nord, zu_nrep, zu_ncla, zu_ntou, zu_ncel]

theorem T229_2_0 (d L p0 p2 r2 r3 s4 : Nat) (C : zCt) {k : Nat} (hk : k < 8) : zR d 229 14 [.ref 201, .int (nI k), .int 0] [] (zZ L, zI C, zPd p0 p2 r2 r3 s4) = zR d 229 14 [.ref 201, .int (nI k), .int 1] [] (zZ L, zI (zcs C 42 (zup (C 42) k 1 (C 411 0 (4 * k)))), zPd p0 p2 r2 r3 s4) := by
  rw [e229_14, if_neg (by decide)]
  simp +decide (disch := omega) only [e229_19, zli, Nat.add_zero, zpre, ite_self, Nat.reduceAdd, zs1, zs2, zs3, zI_eqb, and_self, not_true_eq_false, if_true, if_false, ite_true, ite_false, not_false_eq_true, zBP, zBZ, zisO, zisA, zlen, decide_true, decide_false, Bool.and_self, Bool.and_true, Bool.true_and, cond_true, cond_false, zBG, zBR, zBU, zBV, zinb_n, zix_n, zlA, zlB, zlM, zlN, zlX, zlI, nI_add, Nat.add_eq_zero_iff, false_and, and_false, and_true, true_and, true_or, or_true, false_or, or_false, zbool_i, zb0, zb1, zshp_0, zcs_eq, zcs_n, zcs_cs, zup_g, zup_n, zg_srock2, zg_stug2, zg_ssun, zg_ssun0, zg_srock, zg_srock0, zg_stug, zg_stug0, zg_sord, zg_sord0, zg_srep, zg_srep0, zg_scla, zg_scla0, zg_scon, zg_scon0, zg_swin, zg_swin0, zg_sleg, zg_sleg0, zg_spro, zg_sstp, zg_swrd, zu_srock2, zu_stug2, zu_ssun, zu_ssun0, zu_srock, zu_srock0, zu_stug, zu_stug0, zu_sord, zu_sord0, zu_srep, zu_srep0, zu_scla, zu_scla0, zu_scon, zu_scon0, zu_swin, zu_swin0, zu_sleg, zu_sleg0, zu_spro, zu_sstp, zu_swrd]
theorem T229_2_1 (d L p0 p2 r2 r3 s4 : Nat) (C : zCt) {k : Nat} (hk : k < 8) : zR d 229 14 [.ref 201, .int (nI k), .int 1] [] (zZ L, zI C, zPd p0 p2 r2 r3 s4) = zR d 229 14 [.ref 201, .int (nI k), .int 2] [] (zZ L, zI (zcs C 42 (zup (C 42) k 2 (C 411 0 (4 * k + 1)))), zPd p0 p2 r2 r3 s4) := by
  rw [e229_14, if_neg (by decide)]
  simp +decide (disch := omega) only [e229_19, zli, Nat.add_zero, zpre, ite_self, Nat.reduceAdd, zs1, zs2, zs3, zI_eqb, and_self, not_true_eq_false, if_true, if_false, ite_true, ite_false, not_false_eq_true, zBP, zBZ, zisO, zisA, zlen, decide_true, decide_false, Bool.and_self, Bool.and_true, Bool.true_and, cond_true, cond_false, zBG, zBR, zBU, zBV, zinb_n, zix_n, zlA, zlB, zlM, zlN, zlX, zlI, nI_add, Nat.add_eq_zero_iff, false_and, and_false, and_true, true_and, true_or, or_true, false_or, or_false, zbool_i, zb0, zb1, zshp_0, zcs_eq, zcs_n, zcs_cs, zup_g, zup_n, zg_srock2, zg_stug2, zg_ssun, zg_ssun0, zg_srock, zg_srock0, zg_stug, zg_stug0, zg_sord, zg_sord0, zg_srep, zg_srep0, zg_scla, zg_scla0, zg_scon, zg_scon0, zg_swin, zg_swin0, zg_sleg, zg_sleg0, zg_spro, zg_sstp, zg_swrd, zu_srock2, zu_stug2, zu_ssun, zu_ssun0, zu_srock, zu_srock0, zu_stug, zu_stug0, zu_sord, zu_sord0, zu_srep, zu_srep0, zu_scla, zu_scla0, zu_scon, zu_scon0, zu_swin, zu_swin0, zu_sleg, zu_sleg0, zu_spro, zu_sstp, zu_swrd]
theorem T229_2_2 (d L p0 p2 r2 r3 s4 : Nat) (C : zCt) {k : Nat} (hk : k < 8) : zR d 229 14 [.ref 201, .int (nI k), .int 2] [] (zZ L, zI C, zPd p0 p2 r2 r3 s4) = zR d 229 14 [.ref 201, .int (nI k), .int 3] [] (zZ L, zI (zcs C 42 (zup (C 42) k 3 (C 411 0 (4 * k + 2)))), zPd p0 p2 r2 r3 s4) := by
  rw [e229_14, if_neg (by decide)]
  simp +decide (disch := omega) only [e229_19, zli, Nat.add_zero, zpre, ite_self, Nat.reduceAdd, zs1, zs2, zs3, zI_eqb, and_self, not_true_eq_false, if_true, if_false, ite_true, ite_false, not_false_eq_true, zBP, zBZ, zisO, zisA, zlen, decide_true, decide_false, Bool.and_self, Bool.and_true, Bool.true_and, cond_true, cond_false, zBG, zBR, zBU, zBV, zinb_n, zix_n, zlA, zlB, zlM, zlN, zlX, zlI, nI_add, Nat.add_eq_zero_iff, false_and, and_false, and_true, true_and, true_or, or_true, false_or, or_false, zbool_i, zb0, zb1, zshp_0, zcs_eq, zcs_n, zcs_cs, zup_g, zup_n, zg_srock2, zg_stug2, zg_ssun, zg_ssun0, zg_srock, zg_srock0, zg_stug, zg_stug0, zg_sord, zg_sord0, zg_srep, zg_srep0, zg_scla, zg_scla0, zg_scon, zg_scon0, zg_swin, zg_swin0, zg_sleg, zg_sleg0, zg_spro, zg_sstp, zg_swrd, zu_srock2, zu_stug2, zu_ssun, zu_ssun0, zu_srock, zu_srock0, zu_stug, zu_stug0, zu_sord, zu_sord0, zu_srep, zu_srep0, zu_scla, zu_scla0, zu_scon, zu_scon0, zu_swin, zu_swin0, zu_sleg, zu_sleg0, zu_spro, zu_sstp, zu_swrd]
theorem T229_2_3 (d L p0 p2 r2 r3 s4 : Nat) (C : zCt) {k : Nat} (hk : k < 8) : zR d 229 14 [.ref 201, .int (nI k), .int 3] [] (zZ L, zI C, zPd p0 p2 r2 r3 s4) = zR d 229 14 [.ref 201, .int (nI k), .int 4] [] (zZ L, zI (zcs C 42 (zup (C 42) k 4 (C 411 0 (4 * k + 3)))), zPd p0 p2 r2 r3 s4) := by
  rw [e229_14, if_neg (by decide)]
  simp +decide (disch := omega) only [e229_19, zli, Nat.add_zero, zpre, ite_self, Nat.reduceAdd, zs1, zs2, zs3, zI_eqb, and_self, not_true_eq_false, if_true, if_false, ite_true, ite_false, not_false_eq_true, zBP, zBZ, zisO, zisA, zlen, decide_true, decide_false, Bool.and_self, Bool.and_true, Bool.true_and, cond_true, cond_false, zBG, zBR, zBU, zBV, zinb_n, zix_n, zlA, zlB, zlM, zlN, zlX, zlI, nI_add, Nat.add_eq_zero_iff, false_and, and_false, and_true, true_and, true_or, or_true, false_or, or_false, zbool_i, zb0, zb1, zshp_0, zcs_eq, zcs_n, zcs_cs, zup_g, zup_n, zg_srock2, zg_stug2, zg_ssun, zg_ssun0, zg_srock, zg_srock0, zg_stug, zg_stug0, zg_sord, zg_sord0, zg_srep, zg_srep0, zg_scla, zg_scla0, zg_scon, zg_scon0, zg_swin, zg_swin0, zg_sleg, zg_sleg0, zg_spro, zg_sstp, zg_swrd, zu_srock2, zu_stug2, zu_ssun, zu_ssun0, zu_srock, zu_srock0, zu_stug, zu_stug0, zu_sord, zu_sord0, zu_srep, zu_srep0, zu_scla, zu_scla0, zu_scon, zu_scon0, zu_swin, zu_swin0, zu_sleg, zu_sleg0, zu_spro, zu_sstp, zu_swrd]
theorem Q229_2 (d L p0 p2 r2 r3 s4 n : Nat) (B : Nat → Int32) (hn : n ≤ 8) : ∀ (m k : Nat) (C : zCt) (v2 : Value), C 40 0 5 = nI n → C 411 0 = B → k + m = n → ∃ F v, zR d 229 2 [.ref 201, .int (nI k), v2] [] (zZ L, zI C, zPd p0 p2 r2 r3 s4) = zR d 229 59 [.ref 201, .int 0, v] [] (zZ L, zI (zcs C 42 F), zPd p0 p2 r2 r3 s4) ∧ zBy F (C 42) (fun i => zqd B (4 * (0 + i))) (fun _ => True) k n := by
  intro m
  induction m with
  | zero =>
    intro k C v2 hC hB hk
    have hk : k = n := by omega
    subst hk
    have h1 : nI k ≤ nI k := Int32.le_refl _
    refine ⟨C 42, v2, ?_, zBy_0⟩
    rw [zcs_self, e229_2v]
    simp +decide (disch := omega) only [e229_57, hC, h1, zpre, ite_self, Nat.reduceAdd, zs1, zs2, zs3, zI_eqb, and_self, not_true_eq_false, if_true, if_false, ite_true, ite_false, not_false_eq_true, zBP, zBZ, zisO, zisA, zlen, decide_true, decide_false, Bool.and_self, Bool.and_true, Bool.true_and, cond_true, cond_false, zBG, zBR, zBU, zBV, zinb_n, zix_n, zlA, zlB, zlM, zlN, zlX, zlI, nI_add, Nat.add_eq_zero_iff, false_and, and_false, and_true, true_and, true_or, or_true, false_or, or_false, zbool_i, zb0, zb1, zshp_0, zcs_eq, zcs_n, zcs_cs, zup_g, zup_n, zg_srock2, zg_stug2, zg_ssun, zg_ssun0, zg_srock, zg_srock0, zg_stug, zg_stug0, zg_sord, zg_sord0, zg_srep, zg_srep0, zg_scla, zg_scla0, zg_scon, zg_scon0, zg_swin, zg_swin0, zg_sleg, zg_sleg0, zg_spro, zg_sstp, zg_swrd, zu_srock2, zu_stug2, zu_ssun, zu_ssun0, zu_srock, zu_srock0, zu_stug, zu_stug0, zu_sord, zu_sord0, zu_srep, zu_srep0, zu_scla, zu_scla0, zu_scon, zu_scon0, zu_swin, zu_swin0, zu_sleg, zu_sleg0, zu_spro, zu_sstp, zu_swrd]
  | succ m ih =>
    intro k C v2 hC hB hk
    have hge : ¬ nI n ≤ nI k := nI_ge (by omega) (by omega)
    have hk8 : k < 8 := by omega
    obtain ⟨G, hG⟩ : ∃ G, G = zup (zup (zup (zup (C 42) k 1 (C 411 0 (4 * k))) k 2 (C 411 0 (4 * k + 1))) k 3 (C 411 0 (4 * k + 2))) k 4 (C 411 0 (4 * k + 3)) := ⟨_, rfl⟩
    have g1 : zqd (G k) 1 = zqd B (4 * (0 + k)) := by
      rw [hG, ← hB, show 4 * (0 + k) = 4 * k by omega]; unfold zqd
      simp (disch := omega) only [zup_g, zup_n]
    have g2 : ∀ i f, ¬ (i = k ∧ 1 ≤ f ∧ f ≤ 4) → G i f = C 42 i f := by
      intro i f hf
      rw [hG]
      simp (disch := omega) only [zup_n]
    obtain ⟨F, v, f1, f2⟩ := ih (k + 1) (zcs C 42 G) (.int 4) (by rw [zcs_n _ _ (by decide)]; exact hC) (by rw [zcs_n _ _ (by decide)]; exact hB) (by omega)
    rw [zcs_cs] at f1
    rw [zcs_eq] at f2
    refine ⟨F, v, ?_, zBy_st (by omega) G g1 g2 trivial f2⟩
    rw [← f1, hG, e229_2v]
    simp +decide (disch := omega) only [e229_12, hC, hge, zpre, ite_self, Nat.reduceAdd, zs1, zs2, zs3, zI_eqb, and_self, not_true_eq_false, if_true, if_false, ite_true, ite_false, not_false_eq_true, zBP, zBZ, zisO, zisA, zlen, decide_true, decide_false, Bool.and_self, Bool.and_true, Bool.true_and, cond_true, cond_false, zBG, zBR, zBU, zBV, zinb_n, zix_n, zlA, zlB, zlM, zlN, zlX, zlI, nI_add, Nat.add_eq_zero_iff, false_and, and_false, and_true, true_and, true_or, or_true, false_or, or_false, zbool_i, zb0, zb1, zshp_0, zcs_eq, zcs_n, zcs_cs, zup_g, zup_n, zg_srock2, zg_stug2, zg_ssun, zg_ssun0, zg_srock, zg_srock0, zg_stug, zg_stug0, zg_sord, zg_sord0, zg_srep, zg_srep0, zg_scla, zg_scla0, zg_scon, zg_scon0, zg_swin, zg_swin0, zg_sleg, zg_sleg0, zg_spro, zg_sstp, zg_swrd, zu_srock2, zu_stug2, zu_ssun, zu_ssun0, zu_srock, zu_srock0, zu_stug, zu_stug0, zu_sord, zu_sord0, zu_srep, zu_srep0, zu_scla, zu_scla0, zu_scon, zu_scon0, zu_swin, zu_swin0, zu_sleg, zu_sleg0, zu_spro, zu_sstp, zu_swrd]
    rw [T229_2_0 d L p0 p2 r2 r3 s4 _ hk8, T229_2_1 d L p0 p2 r2 r3 s4 _ hk8, T229_2_2 d L p0 p2 r2 r3 s4 _ hk8, T229_2_3 d L p0 p2 r2 r3 s4 _ hk8, e229_14, if_pos (by decide), e229_51]
    simp (disch := omega) only [zcs_cs, zcs_eq, zcs_n, zlB]
theorem T229_59_0 (d L p0 p2 r2 r3 s4 : Nat) (C : zCt) {k : Nat} (hk : k < 4) : zR d 229 72 [.ref 201, .int (nI k), .int 0] [] (zZ L, zI C, zPd p0 p2 r2 r3 s4) = zR d 229 72 [.ref 201, .int (nI k), .int 1] [] (zZ L, zI (zcs C 43 (zup (C 43) k 1 (C 411 0 (32 + 4 * k)))), zPd p0 p2 r2 r3 s4) := by
  rw [e229_72, if_neg (by decide)]
  simp +decide (disch := omega) only [e229_77, zli, Nat.add_zero, zpre, ite_self, Nat.reduceAdd, zs1, zs2, zs3, zI_eqb, and_self, not_true_eq_false, if_true, if_false, ite_true, ite_false, not_false_eq_true, zBP, zBZ, zisO, zisA, zlen, decide_true, decide_false, Bool.and_self, Bool.and_true, Bool.true_and, cond_true, cond_false, zBG, zBR, zBU, zBV, zinb_n, zix_n, zlA, zlB, zlM, zlN, zlX, zlI, nI_add, Nat.add_eq_zero_iff, false_and, and_false, and_true, true_and, true_or, or_true, false_or, or_false, zbool_i, zb0, zb1, zshp_0, zcs_eq, zcs_n, zcs_cs, zup_g, zup_n, zg_srock2, zg_stug2, zg_ssun, zg_ssun0, zg_srock, zg_srock0, zg_stug, zg_stug0, zg_sord, zg_sord0, zg_srep, zg_srep0, zg_scla, zg_scla0, zg_scon, zg_scon0, zg_swin, zg_swin0, zg_sleg, zg_sleg0, zg_spro, zg_sstp, zg_swrd, zu_srock2, zu_stug2, zu_ssun, zu_ssun0, zu_srock, zu_srock0, zu_stug, zu_stug0, zu_sord, zu_sord0, zu_srep, zu_srep0, zu_scla, zu_scla0, zu_scon, zu_scon0, zu_swin, zu_swin0, zu_sleg, zu_sleg0, zu_spro, zu_sstp, zu_swrd]
theorem T229_59_1 (d L p0 p2 r2 r3 s4 : Nat) (C : zCt) {k : Nat} (hk : k < 4) : zR d 229 72 [.ref 201, .int (nI k), .int 1] [] (zZ L, zI C, zPd p0 p2 r2 r3 s4) = zR d 229 72 [.ref 201, .int (nI k), .int 2] [] (zZ L, zI (zcs C 43 (zup (C 43) k 2 (C 411 0 (32 + 4 * k + 1)))), zPd p0 p2 r2 r3 s4) := by
  rw [e229_72, if_neg (by decide)]
  simp +decide (disch := omega) only [e229_77, zli, Nat.add_zero, zpre, ite_self, Nat.reduceAdd, zs1, zs2, zs3, zI_eqb, and_self, not_true_eq_false, if_true, if_false, ite_true, ite_false, not_false_eq_true, zBP, zBZ, zisO, zisA, zlen, decide_true, decide_false, Bool.and_self, Bool.and_true, Bool.true_and, cond_true, cond_false, zBG, zBR, zBU, zBV, zinb_n, zix_n, zlA, zlB, zlM, zlN, zlX, zlI, nI_add, Nat.add_eq_zero_iff, false_and, and_false, and_true, true_and, true_or, or_true, false_or, or_false, zbool_i, zb0, zb1, zshp_0, zcs_eq, zcs_n, zcs_cs, zup_g, zup_n, zg_srock2, zg_stug2, zg_ssun, zg_ssun0, zg_srock, zg_srock0, zg_stug, zg_stug0, zg_sord, zg_sord0, zg_srep, zg_srep0, zg_scla, zg_scla0, zg_scon, zg_scon0, zg_swin, zg_swin0, zg_sleg, zg_sleg0, zg_spro, zg_sstp, zg_swrd, zu_srock2, zu_stug2, zu_ssun, zu_ssun0, zu_srock, zu_srock0, zu_stug, zu_stug0, zu_sord, zu_sord0, zu_srep, zu_srep0, zu_scla, zu_scla0, zu_scon, zu_scon0, zu_swin, zu_swin0, zu_sleg, zu_sleg0, zu_spro, zu_sstp, zu_swrd]
theorem T229_59_2 (d L p0 p2 r2 r3 s4 : Nat) (C : zCt) {k : Nat} (hk : k < 4) : zR d 229 72 [.ref 201, .int (nI k), .int 2] [] (zZ L, zI C, zPd p0 p2 r2 r3 s4) = zR d 229 72 [.ref 201, .int (nI k), .int 3] [] (zZ L, zI (zcs C 43 (zup (C 43) k 3 (C 411 0 (32 + 4 * k + 2)))), zPd p0 p2 r2 r3 s4) := by
  rw [e229_72, if_neg (by decide)]
  simp +decide (disch := omega) only [e229_77, zli, Nat.add_zero, zpre, ite_self, Nat.reduceAdd, zs1, zs2, zs3, zI_eqb, and_self, not_true_eq_false, if_true, if_false, ite_true, ite_false, not_false_eq_true, zBP, zBZ, zisO, zisA, zlen, decide_true, decide_false, Bool.and_self, Bool.and_true, Bool.true_and, cond_true, cond_false, zBG, zBR, zBU, zBV, zinb_n, zix_n, zlA, zlB, zlM, zlN, zlX, zlI, nI_add, Nat.add_eq_zero_iff, false_and, and_false, and_true, true_and, true_or, or_true, false_or, or_false, zbool_i, zb0, zb1, zshp_0, zcs_eq, zcs_n, zcs_cs, zup_g, zup_n, zg_srock2, zg_stug2, zg_ssun, zg_ssun0, zg_srock, zg_srock0, zg_stug, zg_stug0, zg_sord, zg_sord0, zg_srep, zg_srep0, zg_scla, zg_scla0, zg_scon, zg_scon0, zg_swin, zg_swin0, zg_sleg, zg_sleg0, zg_spro, zg_sstp, zg_swrd, zu_srock2, zu_stug2, zu_ssun, zu_ssun0, zu_srock, zu_srock0, zu_stug, zu_stug0, zu_sord, zu_sord0, zu_srep, zu_srep0, zu_scla, zu_scla0, zu_scon, zu_scon0, zu_swin, zu_swin0, zu_sleg, zu_sleg0, zu_spro, zu_sstp, zu_swrd]
theorem T229_59_3 (d L p0 p2 r2 r3 s4 : Nat) (C : zCt) {k : Nat} (hk : k < 4) : zR d 229 72 [.ref 201, .int (nI k), .int 3] [] (zZ L, zI C, zPd p0 p2 r2 r3 s4) = zR d 229 72 [.ref 201, .int (nI k), .int 4] [] (zZ L, zI (zcs C 43 (zup (C 43) k 4 (C 411 0 (32 + 4 * k + 3)))), zPd p0 p2 r2 r3 s4) := by
  rw [e229_72, if_neg (by decide)]
  simp +decide (disch := omega) only [e229_77, zli, Nat.add_zero, zpre, ite_self, Nat.reduceAdd, zs1, zs2, zs3, zI_eqb, and_self, not_true_eq_false, if_true, if_false, ite_true, ite_false, not_false_eq_true, zBP, zBZ, zisO, zisA, zlen, decide_true, decide_false, Bool.and_self, Bool.and_true, Bool.true_and, cond_true, cond_false, zBG, zBR, zBU, zBV, zinb_n, zix_n, zlA, zlB, zlM, zlN, zlX, zlI, nI_add, Nat.add_eq_zero_iff, false_and, and_false, and_true, true_and, true_or, or_true, false_or, or_false, zbool_i, zb0, zb1, zshp_0, zcs_eq, zcs_n, zcs_cs, zup_g, zup_n, zg_srock2, zg_stug2, zg_ssun, zg_ssun0, zg_srock, zg_srock0, zg_stug, zg_stug0, zg_sord, zg_sord0, zg_srep, zg_srep0, zg_scla, zg_scla0, zg_scon, zg_scon0, zg_swin, zg_swin0, zg_sleg, zg_sleg0, zg_spro, zg_sstp, zg_swrd, zu_srock2, zu_stug2, zu_ssun, zu_ssun0, zu_srock, zu_srock0, zu_stug, zu_stug0, zu_sord, zu_sord0, zu_srep, zu_srep0, zu_scla, zu_scla0, zu_scon, zu_scon0, zu_swin, zu_swin0, zu_sleg, zu_sleg0, zu_spro, zu_sstp, zu_swrd]
theorem Q229_59 (d L p0 p2 r2 r3 s4 n : Nat) (B : Nat → Int32) (hn : n ≤ 4) : ∀ (m k : Nat) (C : zCt) (v2 : Value), C 40 0 6 = nI n → C 411 0 = B → k + m = n → ∃ F, zR d 229 59 [.ref 201, .int (nI k), v2] [] (zZ L, zI C, zPd p0 p2 r2 r3 s4) = some (none, (zZ L, zI (zcs C 43 F), zPd p0 p2 r2 r3 s4)) ∧ zBy F (C 43) (fun i => zqd B (4 * (8 + i))) (fun _ => True) k n := by
  intro m
  induction m with
  | zero =>
    intro k C v2 hC hB hk
    have hk : k = n := by omega
    subst hk
    have h1 : nI k ≤ nI k := Int32.le_refl _
    refine ⟨C 43, ?_, zBy_0⟩
    rw [zcs_self, e229_59v]
    simp +decide (disch := omega) only [e229_119, hC, h1, zpre, ite_self, Nat.reduceAdd, zs1, zs2, zs3, zI_eqb, and_self, not_true_eq_false, if_true, if_false, ite_true, ite_false, not_false_eq_true, zBP, zBZ, zisO, zisA, zlen, decide_true, decide_false, Bool.and_self, Bool.and_true, Bool.true_and, cond_true, cond_false, zBG, zBR, zBU, zBV, zinb_n, zix_n, zlA, zlB, zlM, zlN, zlX, zlI, nI_add, Nat.add_eq_zero_iff, false_and, and_false, and_true, true_and, true_or, or_true, false_or, or_false, zbool_i, zb0, zb1, zshp_0, zcs_eq, zcs_n, zcs_cs, zup_g, zup_n, zg_srock2, zg_stug2, zg_ssun, zg_ssun0, zg_srock, zg_srock0, zg_stug, zg_stug0, zg_sord, zg_sord0, zg_srep, zg_srep0, zg_scla, zg_scla0, zg_scon, zg_scon0, zg_swin, zg_swin0, zg_sleg, zg_sleg0, zg_spro, zg_sstp, zg_swrd, zu_srock2, zu_stug2, zu_ssun, zu_ssun0, zu_srock, zu_srock0, zu_stug, zu_stug0, zu_sord, zu_sord0, zu_srep, zu_srep0, zu_scla, zu_scla0, zu_scon, zu_scon0, zu_swin, zu_swin0, zu_sleg, zu_sleg0, zu_spro, zu_sstp, zu_swrd]
  | succ m ih =>
    intro k C v2 hC hB hk
    have hge : ¬ nI n ≤ nI k := nI_ge (by omega) (by omega)
    have hk8 : k < 4 := by omega
    obtain ⟨G, hG⟩ : ∃ G, G = zup (zup (zup (zup (C 43) k 1 (C 411 0 (32 + 4 * k))) k 2 (C 411 0 (32 + 4 * k + 1))) k 3 (C 411 0 (32 + 4 * k + 2))) k 4 (C 411 0 (32 + 4 * k + 3)) := ⟨_, rfl⟩
    have g1 : zqd (G k) 1 = zqd B (4 * (8 + k)) := by
      rw [hG, ← hB, show 4 * (8 + k) = 32 + 4 * k by omega]; unfold zqd
      simp (disch := omega) only [zup_g, zup_n]
    have g2 : ∀ i f, ¬ (i = k ∧ 1 ≤ f ∧ f ≤ 4) → G i f = C 43 i f := by
      intro i f hf
      rw [hG]
      simp (disch := omega) only [zup_n]
    obtain ⟨F, f1, f2⟩ := ih (k + 1) (zcs C 43 G) (.int 4) (by rw [zcs_n _ _ (by decide)]; exact hC) (by rw [zcs_n _ _ (by decide)]; exact hB) (by omega)
    rw [zcs_cs] at f1
    rw [zcs_eq] at f2
    refine ⟨F, ?_, zBy_st (by omega) G g1 g2 trivial f2⟩
    rw [← f1, hG, e229_59v]
    simp +decide (disch := omega) only [e229_70, hC, hge, zpre, ite_self, Nat.reduceAdd, zs1, zs2, zs3, zI_eqb, and_self, not_true_eq_false, if_true, if_false, ite_true, ite_false, not_false_eq_true, zBP, zBZ, zisO, zisA, zlen, decide_true, decide_false, Bool.and_self, Bool.and_true, Bool.true_and, cond_true, cond_false, zBG, zBR, zBU, zBV, zinb_n, zix_n, zlA, zlB, zlM, zlN, zlX, zlI, nI_add, Nat.add_eq_zero_iff, false_and, and_false, and_true, true_and, true_or, or_true, false_or, or_false, zbool_i, zb0, zb1, zshp_0, zcs_eq, zcs_n, zcs_cs, zup_g, zup_n, zg_srock2, zg_stug2, zg_ssun, zg_ssun0, zg_srock, zg_srock0, zg_stug, zg_stug0, zg_sord, zg_sord0, zg_srep, zg_srep0, zg_scla, zg_scla0, zg_scon, zg_scon0, zg_swin, zg_swin0, zg_sleg, zg_sleg0, zg_spro, zg_sstp, zg_swrd, zu_srock2, zu_stug2, zu_ssun, zu_ssun0, zu_srock, zu_srock0, zu_stug, zu_stug0, zu_sord, zu_sord0, zu_srep, zu_srep0, zu_scla, zu_scla0, zu_scon, zu_scon0, zu_swin, zu_swin0, zu_sleg, zu_sleg0, zu_spro, zu_sstp, zu_swrd]
    rw [T229_59_0 d L p0 p2 r2 r3 s4 _ hk8, T229_59_1 d L p0 p2 r2 r3 s4 _ hk8, T229_59_2 d L p0 p2 r2 r3 s4 _ hk8, T229_59_3 d L p0 p2 r2 r3 s4 _ hk8, e229_72, if_pos (by decide), e229_113]
    simp (disch := omega) only [zcs_cs, zcs_eq, zcs_n, zlB]
