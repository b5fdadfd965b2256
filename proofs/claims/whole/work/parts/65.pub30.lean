/-! THE RUN: receive, printed by wip/gen/pub30.py -/
/-- the class's world in Ca, the model's row in Cb -/
def zWW (Ca Cb : zCt) : Prop := zWR (Ca 0) (Ca 1) (Ca 2) (Ca 3) (Ca 4) (Ca 5) (Ca 6) (Ca 7) (Ca 8) (Ca 9) (fun p => Ca (10 + p % 4)) (Cb 40) (Cb 41) (Cb 42) (Cb 43) (Cb 44) (Cb 45) (Cb 46) (Cb 47) (Cb 48) (Cb 49) (fun p => Cb (50 + p % 4)) (fun p => Cb (54 + p % 4))
def zFa (C C' : zCt) : Prop := ∀ g, ¬ (g < 10) ∧ g ≠ 392 ∧ g ≠ 393 → C' g = C g
def zFb (C C' : zCt) : Prop := ∀ g, ¬ (40 ≤ g ∧ g < 50) ∧ g ≠ 410 ∧ g ≠ 411 → C' g = C g
theorem zFa_t {A B C : zCt} (h1 : zFa A B) (h2 : zFa B C) : zFa A C := fun g e => by rw [h2 g e, h1 g e]
theorem zFb_t {A B C : zCt} (h1 : zFb A B) (h2 : zFb B C) : zFb A C := fun g e => by rw [h2 g e, h1 g e]
theorem zFa_r (A : zCt) : zFa A A := fun _ _ => rfl
theorem zFb_r (A : zCt) : zFb A A := fun _ _ => rfl
theorem zFa_s {A B : zCt} {g : Nat} {F : zGp} (h : zFa A B) (hg : g < 10 ∨ g = 392 ∨ g = 393) : zFa A (zcs B g F) := fun x hx => by rw [zcs_n _ _ (by omega)]; exact h x hx
theorem zFb_s {A B : zCt} {g : Nat} {F : zGp} (h : zFb A B) (hg : (40 ≤ g ∧ g < 50) ∨ g = 410 ∨ g = 411) : zFb A (zcs B g F) := fun x hx => by rw [zcs_n _ _ (by omega)]; exact h x hx
theorem zRT_o {nt nr : Int32} {nb : Nat → Int32} {w : Nat → Nat → Nat} (O Ga Gb A : zGp) (hnb : ∀ p, p < 4 → ∃ N, nb p = nI N ∧ N ≤ 120 ∧ w p 0 = 0 ∧ (Ga 0 (14 + p) ≤ 0 ↔ N = 0) ∧ Gb 0 (14 + p) = nI N) (k : Nat) (hk : ∃ t p, t < zix nt ∧ t < 4 ∧ p < 4 ∧ O k 0 = nI t ∧ O k 1 = nI p) (hA : ∀ f, f < 3 → A k f = O k f) (a b : zGp) (h : zRT nt nr nb w a b) : zRT nt nr nb w (zEoA A Ga k a) (zEoB O Gb k b) := by
  obtain ⟨t, p, ht, ht4, hp, h0, h1⟩ := hk
  obtain ⟨N, n1, n2, n3, n4, n5⟩ := hnb p hp
  unfold zEoA zEoB
  rw [hA 0 (by decide), hA 1 (by decide), h0, h1, zix_n (by omega), zix_n (by omega)]
  refine zRT_set h t (fun i hi => by simp (disch := exact hi) only [zup_row]) (fun i hi => by simp (disch := exact hi) only [zup_row]) ?_
  obtain ⟨k1, k2, k3, k4, k5, k6, k7, k8, k9, k10, k11, k12⟩ := h t ht
  unfold zRT1
  simp (disch := omega) only [zup_g, zup_n]
  refine ⟨?_, k2, ?_, k4, ?_, k6, k7, k8, k9, k10, ?_, ?_⟩
  · intro f hf hf1 hf2
    simp (disch := omega) only [zup_n]; exact k1 f hf hf1 hf2
  · by_cases e : N = 0
    · rw [if_pos (n4.mpr e), if_pos (by rw [n5, e]; rfl)]; rfl
    · rw [if_neg (fun q => e (n4.mp q)), if_neg (by rw [n5]; exact nI_ne0 (by omega) (by omega)), znn_n (by omega)]
  · intro f hf hf2; simp (disch := omega) only [zup_n]; exact k5 f hf hf2
  · by_cases e : N = 0
    · exact Or.inl (by rw [if_pos (by rw [n5, e]; rfl)])
    · refine Or.inr ⟨p, 0, hp, by rw [if_neg (by rw [n5]; exact nI_ne0 (by omega) (by omega))], rfl, Nat.zero_le _, ?_⟩
      rw [n3]; rfl
  · rcases k12 with q | ⟨q1, q2, q3⟩
    · exact Or.inl q
    · exact Or.inr ⟨q1, fun j hj => by first | exact q2 j hj | (simp (disch := omega) only [zup_n]; exact q2 j hj), q3⟩
theorem zRT_r {nt nr : Int32} {nb : Nat → Int32} {w : Nat → Nat → Nat} (O A : zGp) (k : Nat) (hk : ∃ t, t < zix nt ∧ t < 4 ∧ O k 0 = nI t) (h6 : zcn 3000 (O k 6)) (hA : ∀ f, f < 8 → A k f = O k f) (a b : zGp) (h : zRT nt nr nb w a b) : zRT nt nr nb w (zErA A k a) (zErB O k b) := by
  obtain ⟨t, ht, ht4, h0⟩ := hk
  obtain ⟨N, hN, h6⟩ := h6
  have hrow : ∀ T : zGp, ∀ i, i ≠ t → zkn6 T t (O k) i = T i := fun T i hi => by
    unfold zkn6
    simp (disch := exact hi) only [zup_row]
  have hkA : zkn6 a t (A k) = zkn6 a t (O k) := by
    unfold zkn6
    rw [hA 1 (by decide), hA 2 (by decide), hA 3 (by decide), hA 4 (by decide), hA 5 (by decide), hA 6 (by decide)]
  unfold zErA zErB
  rw [hA 0 (by decide), hA 6 (by decide), h0, zix_n (by omega), hkA]
  obtain ⟨k1, k2, k3, k4, k5, k6, k7, k8, k9, k10, k11, k12⟩ := h t ht
  have hkey : zRT1 nr nb w ((if a t 22 < O k 6 then zkn6 a t (O k) else a) t) (zup (if b t 16 = 0 ∨ b t 22 < O k 6 then zkn6 b t (O k) else b) t 16 1 t) := by
    have hup : zRT1 nr nb w (zkn6 a t (O k) t) (zup (zkn6 b t (O k)) t 16 1 t) := by
      unfold zRT1 zkn6
      simp (disch := omega) only [zup_g, zup_n]
      refine ⟨?_, k2, k3, k4, ?_, k6, k7, k8, k9, k10, k11, Or.inr ⟨trivial, ?_, N, hN, h6⟩⟩
      · intro f hf hf1 hf2
        simp (disch := omega) only [zup_n]; exact k1 f hf hf1 hf2
      · intro f hf hf2; simp (disch := omega) only [zup_n]; exact k5 f hf hf2
      · intro j hj
        rcases (show j = 0 ∨ j = 1 ∨ j = 2 ∨ j = 3 ∨ j = 4 ∨ j = 5 by omega) with rfl | rfl | rfl | rfl | rfl | rfl <;> simp (disch := omega) only [zup_g, zup_n, Nat.reduceAdd]
    rcases k12 with ⟨q1, q2⟩ | ⟨q1, q2, M, hM, q3⟩
    · rw [if_pos (by rw [q2, h6]; exact Int32.lt_of_lt_of_le (by decide) (nI_pos' (by omega))), if_pos (Or.inl q1)]
      exact hup
    · have e22 := q2 5 (by decide)
      simp only [Nat.reduceAdd] at e22
      by_cases hl : b t 22 < O k 6
      · rw [if_pos (by rw [e22]; exact hl), if_pos (Or.inr hl)]
        exact hup
      · rw [if_neg (by rw [e22]; exact hl), if_neg (fun q => q.elim (fun z => by rw [q1] at z; exact absurd z (by decide)) hl)]
        unfold zRT1
        simp (disch := omega) only [zup_g, zup_n]
        refine ⟨?_, k2, k3, k4, ?_, k6, k7, k8, k9, k10, k11, Or.inr ⟨trivial, ?_, M, hM, q3⟩⟩
        · intro f hf hf1 hf2
          simp (disch := omega) only [zup_n]; exact k1 f hf hf1 hf2
        · intro f hf hf2; simp (disch := omega) only [zup_n]; exact k5 f hf hf2
        · intro j hj; first | exact q2 j hj | (simp (disch := omega) only [zup_n]; exact q2 j hj)
  refine zRT_set h t (fun i hi => ?_) (fun i hi => ?_) hkey
  · split
    · exact hrow a i hi
    · rfl
  · rw [zup_row hi]
    split
    · exact hrow b i hi
    · rfl
theorem zRR_cl {nr : Int32} (O A : zGp) (k : Nat) (hk : ∃ t r, t < 4 ∧ r < zix nr ∧ r < 8 ∧ O k 0 = nI t ∧ O k 1 = nI r) (hA : ∀ f, f < 3 → A k f = O k f) (a b : zGp) (h : zRR nr a b) : zRR nr (zEcA A k a) (zEcB O k b) := by
  obtain ⟨t, r, ht, hr, hr8, h0, h1⟩ := hk
  unfold zEcA zEcB
  rw [hA 0 (by decide), hA 1 (by decide), h0, h1, zix_n (by omega)]
  obtain ⟨k1, ⟨k2, k2b⟩, k3, k4, k5, k6, k7, k8, k9⟩ := h r hr
  have hkey : zRR1 ((if a r 10 = -1000000005 then zup a r 10 (nI t) else a) r) (zup b r 10 (if b r 10 = -1 then nI t else b r 10) r) := by
    rcases k2b with e | ⟨M, hM, e⟩
    · rw [if_pos (by rw [k2, e]; rfl), if_pos e]
      unfold zRR1
      simp (disch := omega) only [zup_g, zup_n]
      refine ⟨?_, ⟨(znn_n (by omega)).symm, Or.inr ⟨t, by omega, rfl⟩⟩, k3, ?_, k5, k6, k7, k8, k9⟩
      · intro f hf hf2; simp (disch := omega) only [zup_n]; exact k1 f hf hf2
      · intro f hf hf2; simp (disch := omega) only [zup_n]; exact k4 f hf hf2
    · have e2 : ¬ b r 10 = -1 := by rw [e, nI_m (by omega)]; exact id
      have e3 : ¬ a r 10 = -1000000005 := by
        rw [k2, e, znn_n (by omega)]
        intro q
        have := nI_pos (n := M) (by omega)
        rw [q] at this
        exact this (by decide)
      rw [if_neg e3, if_neg e2]
      unfold zRR1
      simp (disch := omega) only [zup_g, zup_n]
      refine ⟨?_, ⟨k2, Or.inr ⟨M, hM, e⟩⟩, k3, ?_, k5, k6, k7, k8, k9⟩
      · intro f hf hf2; simp (disch := omega) only [zup_n]; exact k1 f hf hf2
      · intro f hf hf2; simp (disch := omega) only [zup_n]; exact k4 f hf hf2
  refine zRR_set h r (fun i hi => ?_) (fun i hi => zup_row hi) hkey
  split
  · exact zup_row hi
  · rfl

theorem P1 (L p0 p2 cr2 cr3 r2 r3 s4 : Nat) (Ca Cb : zCt) (h : zWW Ca Cb) : ∃ Ca' Cb', (∀ d, zR (d + 3) 92 2 [.ref 2, .int 0] [] (zZ L, zI Ca, zPd p0 p2 cr2 cr3 s4) = zR (d + 3) 92 70 [.ref 2, .int 0] [] (zZ L, zI Ca', zPd p0 p2 cr2 cr3 s4)) ∧ (∀ d, zR d 205 0 [.ref 201, zmk, zmk, zmk, zmk] [] (zZ L, zI Cb, zPd p0 p2 r2 r3 s4) = some (none, (zZ L, zI Cb', zPd p0 p2 r2 r3 s4))) ∧ zWW Ca' Cb' ∧ zFa Ca Ca' ∧ zFb Cb Cb' ∧ Cb' 40 0 0 = Cb 40 0 0 := by
  obtain ⟨w, hG, hS, hRR, hT, hO, hE, hC, hK, hW, hL, hP⟩ := id h
  have hGe := zRG_e hG
  obtain ⟨n, hn8, hn⟩ := hG.2.2.2.2.2.2.1
  obtain ⟨t, ht8, ht⟩ := hG.2.2.2.2.2.2.2.1
  have hn0 : Ca 0 0 5 = nI n := hGe.2.2.2.2.2.1.trans hn
  have ht0 : Ca 0 0 6 = nI t := hGe.2.2.2.2.2.2.1.trans ht
  obtain ⟨m, hm8, hm⟩ := hG.2.2.2.2.2.2.2.2.1
  have hm0 : Ca 0 0 7 = nI m := (hG.1 7 (by decide)).trans hm
  have td : Ca 0 0 0 = Cb 40 0 0 := hGe.1
  have c1 := fun d => Q92_ord d L p0 p2 cr2 cr3 s4 m hm8 t ht8 m 0 Ca hm0 ⟨ht0, fun i hi => by
    obtain ⟨q1, ⟨u, hu, q2⟩, p, hp, q3⟩ := hO i (by rw [hm, zix_n (by omega)]; exact hi)
    rw [ht, zix_n (by omega)] at hu
    exact ⟨u, p, hu, hp, (q1 0 (by decide)).trans q2, (q1 1 (by decide)).trans q3⟩⟩ (by omega)
  obtain ⟨Ca1, hCa1⟩ : ∃ C1, C1 = zcs Ca 3 (zqe (zEoA (Ca 4) (Ca 0)) (fun i => Ca 4 i 2) (Ca 0 0 0) m 0 (Ca 3)) := ⟨_, rfl⟩
  rw [← hCa1] at c1
  have o1 : ∀ g, g ≠ 3 → Ca1 g = Ca g := fun g e => by rw [hCa1, zcs_n _ _ e]
  have c2 := fun d => T45_ord d L p0 p2 cr2 cr3 s4 m (Cb 40 0 0) hm8 m 0 0 Ca1 (by rw [o1 _ (by decide)]; exact hm0) (by omega) (by omega)
  rw [o1 0 (by decide), o1 4 (by decide)] at c2
  have c3 := fun d => Q205 d L p0 p2 r2 r3 s4 m (Cb 44) hm8 t ht8 (fun i hi => by
    obtain ⟨q1, ⟨u, hu, q2⟩, p, hp, q3⟩ := hO i (by rw [hm, zix_n (by omega)]; exact hi)
    rw [ht, zix_n (by omega)] at hu
    exact ⟨u, p, hu, hp, q2, q3⟩) m 0 0 Cb zmk zmk hm (fun i _ _ f _ => rfl) (by omega) (by omega)
  obtain ⟨d1, d2, d3⟩ := zdu_R (R := fun a b => (∀ f, f < 3 → a f = b f) ∧ (∃ u, u < zix (Cb 40 0 6) ∧ b 0 = nI u) ∧ ∃ p, p < 4 ∧ b 1 = nI p) (w := 3) (n := m) (Cb 40 0 0) (by decide) (fun a b a' b' e1 e2 ⟨r1, r2, r3⟩ => ⟨fun f hf => by rw [e1 f hf, e2 f hf]; exact r1 f hf, by rw [e2 0 (by decide)]; exact r2, by rw [e2 1 (by decide)]; exact r3⟩) (fun a b r => r.1 2 (by decide)) m 0 0 (Ca 4) (Cb 44) (by omega) (by omega) (fun i hi => hO i (by rw [hm, zix_n (by omega)]; exact hi))
  have hq := zqe_R (R := fun a b => zRT (Cb 40 0 6) (Cb 40 0 5) (fun p => Cb 40 0 (14 + p)) w a b) (n := m) (Cb 40 0 0) (fun i hi => (hO i (by rw [hm, zix_n (by omega)]; exact hi)).1 2 (by decide)) (fun i hi a b hab => by
    obtain ⟨q1, ⟨u, hu, q2⟩, p, hp, q3⟩ := hO i (by rw [hm, zix_n (by omega)]; exact hi)
    have hu' := hu
    rw [ht, zix_n (by omega)] at hu'
    refine zRT_o (Cb 44) (Ca 0) (Cb 40) (Ca 4) (fun p hp => ?_) i ⟨u, p, hu, by omega, hp, q2, q3⟩ q1 a b hab
    obtain ⟨N, hN, hN1, hw0, hwm, hwN, hU, hrow⟩ := hP p hp
    refine ⟨N, hN, hN1, hw0, ?_, hN⟩
    rw [hU]
    constructor
    · intro q
      exact Nat.eq_zero_of_not_pos (fun e => nI_nle (by omega) (by omega) q)
    · rintro rfl
      rw [hw0]; decide) m 0 (Ca 3) (Cb 43) (by omega) hT
  rw [zn0] at c2 c3
  refine ⟨zcs (zcs Ca1 4 (zdu 3 (Cb 40 0 0) m 0 0 (Ca 4)).1) 0 (zup (Ca 0) 0 7 (nI (zdu 3 (Cb 40 0 0) m 0 0 (Ca 4)).2)), zcs (zcs (zcs Cb 43 (zqe (zEoB (Cb 44) (Cb 40)) (fun i => Cb 44 i 2) (Cb 40 0 0) m 0 (Cb 43))) 44 (zdu 3 (Cb 40 0 0) m 0 0 (Cb 44)).1) 40 (zup (Cb 40) 0 7 (nI (zdu 3 (Cb 40 0 0) m 0 0 (Cb 44)).2)), fun d => ?_, fun d => ?_, ?_, ?_, ?_⟩
  · have c1z := c1 d
    rw [zn0] at c1z
    rw [c1z]
    have k1 := c2 (d + 2)
    have x0 : Ca1 0 0 0 = Cb 40 0 0 := by rw [o1 0 (by decide)]; exact td
    simp +decide (disch := omega) only [e92_57, e92_68, e45_0, k1, x0, zpre, ite_self, zs1, zs2, zs3, zI_eqb, and_self, not_true_eq_false, if_true, if_false, ite_true, ite_false, not_false_eq_true, zBP, zBZ, zisO, zisA, zlen, decide_true, decide_false, Bool.and_self, Bool.and_true, Bool.true_and, cond_true, cond_false, zBG, zBR, zBU, zBV, zinb_n, zix_n, zlA, zlB, zlM, zlN, zlX, zlI, nI_add, Nat.add_eq_zero_iff, false_and, and_false, and_true, true_and, true_or, or_true, false_or, or_false, zbool_i, zb0, zb1, zshp_0, zcs_eq, zcs_n, zcs_cs, zup_g, zup_n, zp2_sun, zp2_rock, zp2_tug, zp2_contract, zp2_window, zp2_code, zp2_rbody, zp2_rstock, zp2_tfree, zp2_thold, zp2_tknown, zp2_ccells, zsh2_sun, zsh2_rock, zsh2_body, zsh2_stock, zsh2_tug, zsh2_free, zsh2_hold, zsh2_known, zsh2_contract, zsh2_window, zsh2_code, zsh2_cells, zg_nsun0, zg_nsun1, zg_nsun2, zg_nrock0, zg_nrock1, zg_nrock2, zg_nrock3, zg_nrock4, zg_nrock5, zg_nrock6, zg_nrock7, zg_nrock8, zg_nrock9, zg_nrock10, zg_nrock11, zg_nrock12, zg_nrock13, zg_nrock14, zg_ntug0, zg_ntug1, zg_ntug2, zg_ntug3, zg_ntug4, zg_ntug5, zg_ntug6, zg_ntug7, zg_ntug8, zg_ntug9, zg_ntug10, zg_ntug11, zg_ntug12, zg_ntug13, zg_ntug14, zg_ntug15, zg_ntug17, zg_ntug18, zg_ntug19, zg_ntug20, zg_ntug21, zg_ntug22, zg_ncon0, zg_ncon1, zg_ncon2, zg_ncon3, zg_ncon4, zg_ncon5, zg_ncon6, zg_nwin0, zg_nwin1, zg_nwin2, zg_nwin3, zg_nwin4, zg_nwin5, zg_ncode0, zg_ncode1, zg_ncode3, zg_nrule, zg_nstock, zg_nhold, zg_nknown, zg_nord, zg_nrep, zg_ncla, zg_ntou, zg_ncel, zu_nsun0, zu_nsun1, zu_nsun2, zu_nrock0, zu_nrock1, zu_nrock2, zu_nrock3, zu_nrock4, zu_nrock5, zu_nrock6, zu_nrock7, zu_nrock8, zu_nrock9, zu_nrock10, zu_nrock11, zu_nrock12, zu_nrock13, zu_nrock14, zu_ntug0, zu_ntug1, zu_ntug2, zu_ntug3, zu_ntug4, zu_ntug5, zu_ntug6, zu_ntug7, zu_ntug8, zu_ntug9, zu_ntug10, zu_ntug11, zu_ntug12, zu_ntug13, zu_ntug14, zu_ntug15, zu_ntug17, zu_ntug18, zu_ntug19, zu_ntug20, zu_ntug21, zu_ntug22, zu_ncon0, zu_ncon1, zu_ncon2, zu_ncon3, zu_ncon4, zu_ncon5, zu_ncon6, zu_nwin0, zu_nwin1, zu_nwin2, zu_nwin3, zu_nwin4, zu_nwin5, zu_ncode3, zu_nrule, zu_nstock, zu_nhold, zu_nknown, zu_nord, zu_nrep, zu_ncla, zu_ntou, zu_ncel]
  · rw [e205_0]
    exact c3 d
  · rw [hCa1, d1]
    unfold zWW
    simp (disch := omega) only [zcs_eq, zcs_n]
    unfold zWR
    simp (disch := omega) only [zup_g, zup_n]
    rw [td]
    exact ⟨w, zRG_u7 hG ⟨_, Nat.le_trans d2 hm8, rfl⟩, hS, hRR, hq, fun i hi => d3 i (by rw [zix_n (by omega)] at hi; omega), hE, hC, hK, hW, hL, hP⟩
  · rw [hCa1]; exact zFa_s (zFa_s (zFa_s (zFa_r _) (by omega)) (by omega)) (by omega)
  · exact ⟨zFb_s (zFb_s (zFb_s (zFb_r _) (by omega)) (by omega)) (by omega), by rw [zcs_eq, zup_n _ _ (by omega)]⟩
theorem P2 (L p0 p2 cr2 cr3 r2 r3 s4 : Nat) (Ca Cb : zCt) (h : zWW Ca Cb) : ∃ Ca' Cb', (∀ d, zR (d + 3) 92 70 [.ref 2, .int 0] [] (zZ L, zI Ca, zPd p0 p2 cr2 cr3 s4) = zR (d + 3) 92 121 [.ref 2, .int 0] [] (zZ L, zI Ca', zPd p0 p2 cr2 cr3 s4)) ∧ (∀ d, zR d 206 0 [.ref 201, zmk, zmk, zmk, zmk, zmk] [] (zZ L, zI Cb, zPd p0 p2 r2 r3 s4) = some (none, (zZ L, zI Cb', zPd p0 p2 r2 r3 s4))) ∧ zWW Ca' Cb' ∧ zFa Ca Ca' ∧ zFb Cb Cb' ∧ Cb' 40 0 0 = Cb 40 0 0 := by
  obtain ⟨w, hG, hS, hRR, hT, hO, hE, hC, hK, hW, hL, hP⟩ := id h
  have hGe := zRG_e hG
  obtain ⟨n, hn8, hn⟩ := hG.2.2.2.2.2.2.1
  obtain ⟨t, ht8, ht⟩ := hG.2.2.2.2.2.2.2.1
  have hn0 : Ca 0 0 5 = nI n := hGe.2.2.2.2.2.1.trans hn
  have ht0 : Ca 0 0 6 = nI t := hGe.2.2.2.2.2.2.1.trans ht
  obtain ⟨m, hm8, hm⟩ := hG.2.2.2.2.2.2.2.2.2.1
  have hm0 : Ca 0 0 8 = nI m := (hG.1 8 (by decide)).trans hm
  have td : Ca 0 0 0 = Cb 40 0 0 := hGe.1
  have c1 := fun d => Q92_rep d L p0 p2 cr2 cr3 s4 m hm8 t ht8 m 0 Ca hm0 ⟨ht0, fun i hi => by
    obtain ⟨q1, ⟨u, hu, q2⟩, q3⟩ := hE i (by rw [hm, zix_n (by omega)]; exact hi)
    rw [ht, zix_n (by omega)] at hu
    exact ⟨u, hu, (q1 0 (by decide)).trans q2⟩⟩ (by omega)
  obtain ⟨Ca1, hCa1⟩ : ∃ C1, C1 = zcs Ca 3 (zqe (zErA (Ca 5)) (fun i => Ca 5 i 7) (Ca 0 0 0) m 0 (Ca 3)) := ⟨_, rfl⟩
  rw [← hCa1] at c1
  have o1 : ∀ g, g ≠ 3 → Ca1 g = Ca g := fun g e => by rw [hCa1, zcs_n _ _ e]
  have c2 := fun d => T45_rep d L p0 p2 cr2 cr3 s4 m (Cb 40 0 0) hm8 m 0 0 Ca1 (by rw [o1 _ (by decide)]; exact hm0) (by omega) (by omega)
  rw [o1 0 (by decide), o1 5 (by decide)] at c2
  have c3 := fun d => Q206 d L p0 p2 r2 r3 s4 m (Cb 45) hm8 t ht8 (fun i hi => by
    obtain ⟨q1, ⟨u, hu, q2⟩, q3⟩ := hE i (by rw [hm, zix_n (by omega)]; exact hi)
    rw [ht, zix_n (by omega)] at hu
    exact ⟨u, hu, q2⟩) m 0 0 Cb zmk zmk zmk hm (fun i _ _ f _ => rfl) (by omega) (by omega)
  obtain ⟨d1, d2, d3⟩ := zdu_R (R := fun a b => (∀ f, f < 8 → a f = b f) ∧ (∃ u, u < zix (Cb 40 0 6) ∧ b 0 = nI u) ∧ zcn 3000 (b 6)) (w := 8) (n := m) (Cb 40 0 0) (by decide) (fun a b a' b' e1 e2 ⟨r1, r2, r3⟩ => ⟨fun f hf => by rw [e1 f hf, e2 f hf]; exact r1 f hf, by rw [e2 0 (by decide)]; exact r2, by rw [e2 6 (by decide)]; exact r3⟩) (fun a b r => r.1 7 (by decide)) m 0 0 (Ca 5) (Cb 45) (by omega) (by omega) (fun i hi => hE i (by rw [hm, zix_n (by omega)]; exact hi))
  have hq := zqe_R (R := fun a b => zRT (Cb 40 0 6) (Cb 40 0 5) (fun p => Cb 40 0 (14 + p)) w a b) (n := m) (Cb 40 0 0) (fun i hi => (hE i (by rw [hm, zix_n (by omega)]; exact hi)).1 7 (by decide)) (fun i hi a b hab => by
    obtain ⟨q1, ⟨u, hu, q2⟩, q3⟩ := hE i (by rw [hm, zix_n (by omega)]; exact hi)
    have hu' := hu
    rw [ht, zix_n (by omega)] at hu'
    exact zRT_r (Cb 45) (Ca 5) i ⟨u, hu, by omega, q2⟩ q3 q1 a b hab) m 0 (Ca 3) (Cb 43) (by omega) hT
  rw [zn0] at c2 c3
  refine ⟨zcs (zcs Ca1 5 (zdu 8 (Cb 40 0 0) m 0 0 (Ca 5)).1) 0 (zup (Ca 0) 0 8 (nI (zdu 8 (Cb 40 0 0) m 0 0 (Ca 5)).2)), zcs (zcs (zcs Cb 43 (zqe (zErB (Cb 45)) (fun i => Cb 45 i 7) (Cb 40 0 0) m 0 (Cb 43))) 45 (zdu 8 (Cb 40 0 0) m 0 0 (Cb 45)).1) 40 (zup (Cb 40) 0 8 (nI (zdu 8 (Cb 40 0 0) m 0 0 (Cb 45)).2)), fun d => ?_, fun d => ?_, ?_, ?_, ?_⟩
  · have c1z := c1 d
    rw [zn0] at c1z
    rw [c1z]
    have k1 := c2 (d + 2)
    have x0 : Ca1 0 0 0 = Cb 40 0 0 := by rw [o1 0 (by decide)]; exact td
    simp +decide (disch := omega) only [e92_108, e92_119, e45_0, k1, x0, zpre, ite_self, zs1, zs2, zs3, zI_eqb, and_self, not_true_eq_false, if_true, if_false, ite_true, ite_false, not_false_eq_true, zBP, zBZ, zisO, zisA, zlen, decide_true, decide_false, Bool.and_self, Bool.and_true, Bool.true_and, cond_true, cond_false, zBG, zBR, zBU, zBV, zinb_n, zix_n, zlA, zlB, zlM, zlN, zlX, zlI, nI_add, Nat.add_eq_zero_iff, false_and, and_false, and_true, true_and, true_or, or_true, false_or, or_false, zbool_i, zb0, zb1, zshp_0, zcs_eq, zcs_n, zcs_cs, zup_g, zup_n, zp2_sun, zp2_rock, zp2_tug, zp2_contract, zp2_window, zp2_code, zp2_rbody, zp2_rstock, zp2_tfree, zp2_thold, zp2_tknown, zp2_ccells, zsh2_sun, zsh2_rock, zsh2_body, zsh2_stock, zsh2_tug, zsh2_free, zsh2_hold, zsh2_known, zsh2_contract, zsh2_window, zsh2_code, zsh2_cells, zg_nsun0, zg_nsun1, zg_nsun2, zg_nrock0, zg_nrock1, zg_nrock2, zg_nrock3, zg_nrock4, zg_nrock5, zg_nrock6, zg_nrock7, zg_nrock8, zg_nrock9, zg_nrock10, zg_nrock11, zg_nrock12, zg_nrock13, zg_nrock14, zg_ntug0, zg_ntug1, zg_ntug2, zg_ntug3, zg_ntug4, zg_ntug5, zg_ntug6, zg_ntug7, zg_ntug8, zg_ntug9, zg_ntug10, zg_ntug11, zg_ntug12, zg_ntug13, zg_ntug14, zg_ntug15, zg_ntug17, zg_ntug18, zg_ntug19, zg_ntug20, zg_ntug21, zg_ntug22, zg_ncon0, zg_ncon1, zg_ncon2, zg_ncon3, zg_ncon4, zg_ncon5, zg_ncon6, zg_nwin0, zg_nwin1, zg_nwin2, zg_nwin3, zg_nwin4, zg_nwin5, zg_ncode0, zg_ncode1, zg_ncode3, zg_nrule, zg_nstock, zg_nhold, zg_nknown, zg_nord, zg_nrep, zg_ncla, zg_ntou, zg_ncel, zu_nsun0, zu_nsun1, zu_nsun2, zu_nrock0, zu_nrock1, zu_nrock2, zu_nrock3, zu_nrock4, zu_nrock5, zu_nrock6, zu_nrock7, zu_nrock8, zu_nrock9, zu_nrock10, zu_nrock11, zu_nrock12, zu_nrock13, zu_nrock14, zu_ntug0, zu_ntug1, zu_ntug2, zu_ntug3, zu_ntug4, zu_ntug5, zu_ntug6, zu_ntug7, zu_ntug8, zu_ntug9, zu_ntug10, zu_ntug11, zu_ntug12, zu_ntug13, zu_ntug14, zu_ntug15, zu_ntug17, zu_ntug18, zu_ntug19, zu_ntug20, zu_ntug21, zu_ntug22, zu_ncon0, zu_ncon1, zu_ncon2, zu_ncon3, zu_ncon4, zu_ncon5, zu_ncon6, zu_nwin0, zu_nwin1, zu_nwin2, zu_nwin3, zu_nwin4, zu_nwin5, zu_ncode3, zu_nrule, zu_nstock, zu_nhold, zu_nknown, zu_nord, zu_nrep, zu_ncla, zu_ntou, zu_ncel]
  · rw [e206_0]
    exact c3 d
  · rw [hCa1, d1]
    unfold zWW
    simp (disch := omega) only [zcs_eq, zcs_n]
    unfold zWR
    simp (disch := omega) only [zup_g, zup_n]
    rw [td]
    exact ⟨w, zRG_u8 hG ⟨_, Nat.le_trans d2 hm8, rfl⟩, hS, hRR, hq, hO, fun i hi => d3 i (by rw [zix_n (by omega)] at hi; omega), hC, hK, hW, hL, hP⟩
  · rw [hCa1]; exact zFa_s (zFa_s (zFa_s (zFa_r _) (by omega)) (by omega)) (by omega)
  · exact ⟨zFb_s (zFb_s (zFb_s (zFb_r _) (by omega)) (by omega)) (by omega), by rw [zcs_eq, zup_n _ _ (by omega)]⟩
theorem P3 (L p0 p2 cr2 cr3 r2 r3 s4 : Nat) (Ca Cb : zCt) (h : zWW Ca Cb) : ∃ Ca' Cb', (∀ d, zR (d + 3) 92 121 [.ref 2, .int 0] [] (zZ L, zI Ca, zPd p0 p2 cr2 cr3 s4) = some (none, (zZ L, zI Ca', zPd p0 p2 cr2 cr3 s4))) ∧ (∀ d, zR d 207 0 [.ref 201, zmk, zmk, zmk, zmk] [] (zZ L, zI Cb, zPd p0 p2 r2 r3 s4) = some (none, (zZ L, zI Cb', zPd p0 p2 r2 r3 s4))) ∧ zWW Ca' Cb' ∧ zFa Ca Ca' ∧ zFb Cb Cb' ∧ Cb' 40 0 0 = Cb 40 0 0 := by
  obtain ⟨w, hG, hS, hRR, hT, hO, hE, hC, hK, hW, hL, hP⟩ := id h
  have hGe := zRG_e hG
  obtain ⟨n, hn8, hn⟩ := hG.2.2.2.2.2.2.1
  obtain ⟨t, ht8, ht⟩ := hG.2.2.2.2.2.2.2.1
  have hn0 : Ca 0 0 5 = nI n := hGe.2.2.2.2.2.1.trans hn
  have ht0 : Ca 0 0 6 = nI t := hGe.2.2.2.2.2.2.1.trans ht
  obtain ⟨m, hm8, hm⟩ := hG.2.2.2.2.2.2.2.2.2.2.1
  have hm0 : Ca 0 0 9 = nI m := (hG.1 9 (by decide)).trans hm
  have td : Ca 0 0 0 = Cb 40 0 0 := hGe.1
  have c1 := fun d => Q92_cla d L p0 p2 cr2 cr3 s4 m hm8 n hn8 m 0 Ca hm0 ⟨hn0, fun i hi => by
    obtain ⟨q1, q2, r, hr, q3⟩ := hC i (by rw [hm, zix_n (by omega)]; exact hi)
    rw [hn, zix_n (by omega)] at hr
    exact ⟨r, hr, (q1 1 (by decide)).trans q3⟩⟩ (by omega)
  obtain ⟨Ca1, hCa1⟩ : ∃ C1, C1 = zcs Ca 2 (zqe (zEcA (Ca 6)) (fun i => Ca 6 i 2) (Ca 0 0 0) m 0 (Ca 2)) := ⟨_, rfl⟩
  rw [← hCa1] at c1
  have o1 : ∀ g, g ≠ 2 → Ca1 g = Ca g := fun g e => by rw [hCa1, zcs_n _ _ e]
  have c2 := fun d => T45_cla d L p0 p2 cr2 cr3 s4 m (Cb 40 0 0) hm8 m 0 0 Ca1 (by rw [o1 _ (by decide)]; exact hm0) (by omega) (by omega)
  rw [o1 0 (by decide), o1 6 (by decide)] at c2
  have c3 := fun d => Q207 d L p0 p2 r2 r3 s4 m (Cb 46) hm8 n hn8 (fun i hi => by
    obtain ⟨q1, q2, r, hr, q3⟩ := hC i (by rw [hm, zix_n (by omega)]; exact hi)
    rw [hn, zix_n (by omega)] at hr
    exact ⟨r, hr, q3⟩) m 0 0 Cb zmk zmk hm (fun i _ _ f _ => rfl) (by omega) (by omega)
  obtain ⟨d1, d2, d3⟩ := zdu_R (R := fun a b => (∀ f, f < 3 → a f = b f) ∧ (∃ u, u < zix (Cb 40 0 6) ∧ b 0 = nI u) ∧ ∃ r, r < zix (Cb 40 0 5) ∧ b 1 = nI r) (w := 3) (n := m) (Cb 40 0 0) (by decide) (fun a b a' b' e1 e2 ⟨r1, r2, r3⟩ => ⟨fun f hf => by rw [e1 f hf, e2 f hf]; exact r1 f hf, by rw [e2 0 (by decide)]; exact r2, by rw [e2 1 (by decide)]; exact r3⟩) (fun a b r => r.1 2 (by decide)) m 0 0 (Ca 6) (Cb 46) (by omega) (by omega) (fun i hi => hC i (by rw [hm, zix_n (by omega)]; exact hi))
  have hq := zqe_R (R := fun a b => zRR (Cb 40 0 5) a b) (n := m) (Cb 40 0 0) (fun i hi => (hC i (by rw [hm, zix_n (by omega)]; exact hi)).1 2 (by decide)) (fun i hi a b hab => by
    obtain ⟨q1, ⟨u, hu, q2⟩, r, hr, q3⟩ := hC i (by rw [hm, zix_n (by omega)]; exact hi)
    have hu' := hu
    have hr' := hr
    rw [ht, zix_n (by omega)] at hu'
    rw [hn, zix_n (by omega)] at hr'
    exact zRR_cl (Cb 46) (Ca 6) i ⟨u, r, by omega, hr, by omega, q2, q3⟩ q1 a b hab) m 0 (Ca 2) (Cb 42) (by omega) hRR
  rw [zn0] at c2 c3
  refine ⟨zcs (zcs Ca1 6 (zdu 3 (Cb 40 0 0) m 0 0 (Ca 6)).1) 0 (zup (Ca 0) 0 9 (nI (zdu 3 (Cb 40 0 0) m 0 0 (Ca 6)).2)), zcs (zcs (zcs Cb 42 (zqe (zEcB (Cb 46)) (fun i => Cb 46 i 2) (Cb 40 0 0) m 0 (Cb 42))) 46 (zdu 3 (Cb 40 0 0) m 0 0 (Cb 46)).1) 40 (zup (Cb 40) 0 9 (nI (zdu 3 (Cb 40 0 0) m 0 0 (Cb 46)).2)), fun d => ?_, fun d => ?_, ?_, ?_, ?_⟩
  · have c1z := c1 d
    rw [zn0] at c1z
    rw [c1z]
    have k1 := c2 (d + 2)
    have x0 : Ca1 0 0 0 = Cb 40 0 0 := by rw [o1 0 (by decide)]; exact td
    simp +decide (disch := omega) only [e92_176, e92_187, e45_0, k1, x0, zpre, ite_self, zs1, zs2, zs3, zI_eqb, and_self, not_true_eq_false, if_true, if_false, ite_true, ite_false, not_false_eq_true, zBP, zBZ, zisO, zisA, zlen, decide_true, decide_false, Bool.and_self, Bool.and_true, Bool.true_and, cond_true, cond_false, zBG, zBR, zBU, zBV, zinb_n, zix_n, zlA, zlB, zlM, zlN, zlX, zlI, nI_add, Nat.add_eq_zero_iff, false_and, and_false, and_true, true_and, true_or, or_true, false_or, or_false, zbool_i, zb0, zb1, zshp_0, zcs_eq, zcs_n, zcs_cs, zup_g, zup_n, zp2_sun, zp2_rock, zp2_tug, zp2_contract, zp2_window, zp2_code, zp2_rbody, zp2_rstock, zp2_tfree, zp2_thold, zp2_tknown, zp2_ccells, zsh2_sun, zsh2_rock, zsh2_body, zsh2_stock, zsh2_tug, zsh2_free, zsh2_hold, zsh2_known, zsh2_contract, zsh2_window, zsh2_code, zsh2_cells, zg_nsun0, zg_nsun1, zg_nsun2, zg_nrock0, zg_nrock1, zg_nrock2, zg_nrock3, zg_nrock4, zg_nrock5, zg_nrock6, zg_nrock7, zg_nrock8, zg_nrock9, zg_nrock10, zg_nrock11, zg_nrock12, zg_nrock13, zg_nrock14, zg_ntug0, zg_ntug1, zg_ntug2, zg_ntug3, zg_ntug4, zg_ntug5, zg_ntug6, zg_ntug7, zg_ntug8, zg_ntug9, zg_ntug10, zg_ntug11, zg_ntug12, zg_ntug13, zg_ntug14, zg_ntug15, zg_ntug17, zg_ntug18, zg_ntug19, zg_ntug20, zg_ntug21, zg_ntug22, zg_ncon0, zg_ncon1, zg_ncon2, zg_ncon3, zg_ncon4, zg_ncon5, zg_ncon6, zg_nwin0, zg_nwin1, zg_nwin2, zg_nwin3, zg_nwin4, zg_nwin5, zg_ncode0, zg_ncode1, zg_ncode3, zg_nrule, zg_nstock, zg_nhold, zg_nknown, zg_nord, zg_nrep, zg_ncla, zg_ntou, zg_ncel, zu_nsun0, zu_nsun1, zu_nsun2, zu_nrock0, zu_nrock1, zu_nrock2, zu_nrock3, zu_nrock4, zu_nrock5, zu_nrock6, zu_nrock7, zu_nrock8, zu_nrock9, zu_nrock10, zu_nrock11, zu_nrock12, zu_nrock13, zu_nrock14, zu_ntug0, zu_ntug1, zu_ntug2, zu_ntug3, zu_ntug4, zu_ntug5, zu_ntug6, zu_ntug7, zu_ntug8, zu_ntug9, zu_ntug10, zu_ntug11, zu_ntug12, zu_ntug13, zu_ntug14, zu_ntug15, zu_ntug17, zu_ntug18, zu_ntug19, zu_ntug20, zu_ntug21, zu_ntug22, zu_ncon0, zu_ncon1, zu_ncon2, zu_ncon3, zu_ncon4, zu_ncon5, zu_ncon6, zu_nwin0, zu_nwin1, zu_nwin2, zu_nwin3, zu_nwin4, zu_nwin5, zu_ncode3, zu_nrule, zu_nstock, zu_nhold, zu_nknown, zu_nord, zu_nrep, zu_ncla, zu_ntou, zu_ncel]
  · rw [e207_0]
    exact c3 d
  · rw [hCa1, d1]
    unfold zWW
    simp (disch := omega) only [zcs_eq, zcs_n]
    unfold zWR
    simp (disch := omega) only [zup_g, zup_n]
    rw [td]
    exact ⟨w, zRG_u9 hG ⟨_, Nat.le_trans d2 hm8, rfl⟩, hS, hq, hT, hO, hE, fun i hi => d3 i (by rw [zix_n (by omega)] at hi; omega), hK, hW, hL, hP⟩
  · rw [hCa1]; exact zFa_s (zFa_s (zFa_s (zFa_r _) (by omega)) (by omega)) (by omega)
  · exact ⟨zFb_s (zFb_s (zFb_s (zFb_r _) (by omega)) (by omega)) (by omega), by rw [zcs_eq, zup_n _ _ (by omega)]⟩
