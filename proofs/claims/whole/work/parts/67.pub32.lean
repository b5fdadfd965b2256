/-! THE RUN: the drift (2), printed by wip/gen/pub32.py -/
theorem zqd_e {a b : Nat → Int32} {o p : Nat} (h : zqd a o = zqd b p) : a o = b p ∧ a (o + 1) = b (p + 1) ∧ a (o + 2) = b (p + 2) ∧ a (o + 3) = b (p + 3) := by
  unfold zqd at h
  simp only [Prod.mk.injEq] at h
  exact h
theorem P5 (d1 d2 L p0 p2 cr2 cr3 r2 r3 s4 : Nat) (Ca Cb : zCt) (h : zWW Ca Cb) (x : Int32) (v2 : Value) : ∃ Ca' Cb', zR (d1 + 5) 97 0 [.ref 2, zmk] [] (zZ L, zI Ca, zPd p0 p2 cr2 cr3 s4) = some (none, (zZ L, zI Ca', zPd p0 p2 cr2 cr3 s4)) ∧ zR (d2 + 5) 204 36 [.ref 201, .int x, v2] [] (zZ L, zI Cb, zPd p0 p2 r2 r3 s4) = zR (d2 + 5) 204 48 [.ref 201, .int x, v2] [] (zZ L, zI Cb', zPd p0 p2 r2 r3 s4) ∧ zWW Ca' Cb' ∧ zFa Ca Ca' ∧ zFb Cb Cb' ∧ Cb' 40 0 0 = Cb 40 0 0 := by
  obtain ⟨w, hG, hS, hRR, hT, hO, hE, hC, hK, hW, hL, hP⟩ := id h
  have hGe := zRG_e hG
  obtain ⟨n, hn8, hn⟩ := hG.2.2.2.2.2.2.1
  obtain ⟨t, ht8, ht⟩ := hG.2.2.2.2.2.2.2.1
  have hn0 : Ca 0 0 5 = nI n := hGe.2.2.2.2.2.1.trans hn
  have ht0 : Ca 0 0 6 = nI t := hGe.2.2.2.2.2.2.1.trans ht
  obtain ⟨ns, hns3, hns⟩ := hG.2.2.2.2.2.1
  have hns0 : Ca 0 0 4 = nI ns := hGe.2.2.2.2.1.trans hns
  have hRR' : ∀ i, i < n → zRR1 (Ca 2 i) (Cb 42 i) := fun i hi => hRR i (by rw [hn, zix_n (by omega)]; exact hi)
  have hT' : ∀ i, i < t → zRT1 (Cb 40 0 5) (fun p => Cb 40 0 (14 + p)) w (Ca 3 i) (Cb 43 i) := fun i hi => hT i (by rw [ht, zix_n (by omega)]; exact hi)
  have hqr : ∀ i, i < n → zqd (Ca 2 i) 1 = zqd (Cb 42 i) 1 ∧ zBq (zqd (Cb 42 i) 1) := by
    intro i hi
    obtain ⟨k1, _, _, k4, _⟩ := hRR' i hi
    unfold zqd
    rw [k1 1 (by decide) (by decide), k1 (1 + 1) (by decide) (by decide), k1 (1 + 2) (by decide) (by decide), k1 (1 + 3) (by decide) (by decide)]
    exact ⟨rfl, k4 1 (by decide) (by decide), k4 2 (by decide) (by decide), k4 3 (by decide) (by decide), k4 4 (by decide) (by decide)⟩
  have hqt : ∀ i, i < t → zqd (Ca 3 i) 1 = zqd (Cb 43 i) 1 ∧ zBq (zqd (Cb 43 i) 1) := by
    intro i hi
    obtain ⟨k1, _, _, _, k5, _⟩ := hT' i hi
    unfold zqd
    rw [k1 1 (by decide) (by decide) (by decide), k1 (1 + 1) (by decide) (by decide) (by decide), k1 (1 + 2) (by decide) (by decide) (by decide), k1 (1 + 3) (by decide) (by decide) (by decide)]
    exact ⟨rfl, k5 1 (by decide) (by decide), k5 2 (by decide) (by decide), k5 3 (by decide) (by decide), k5 4 (by decide) (by decide)⟩
  have hfree : ∀ i, i < t → (Cb 43 i 9 = -1 ↔ ¬ (0 ≤ Ca 3 i 9 ∧ ¬ nI n ≤ Ca 3 i 9)) := by
    intro i hi
    obtain ⟨_, k2, _, _, _, _, _, _, k9, _⟩ := hT' i hi
    rw [k2]
    rcases k9 with e | ⟨r, hr, e⟩
    · rw [e]
      exact ⟨fun _ q => absurd q.1 (by decide), fun _ => rfl⟩
    · rw [hn, zix_n (by omega)] at hr
      rw [e, znn_n (by omega)]
      exact ⟨fun q => by rw [nI_m (by omega)] at q; exact absurd q id, fun q => absurd ⟨nI_pos' (by omega), nI_ge hr (by omega)⟩ q⟩
  have hzd : ∀ b, zdr (Ca 1) ns b = zdr (Cb 41) ns b := zdr_c (fun i hi f hf => hS i (by rw [hns, zix_n (by omega)]; exact hi) f hf)
  -- the class
  obtain ⟨F2, c1, c2⟩ := Q97_r d1 L p0 p2 cr2 cr3 s4 ns n (Ca 1) (fun i => zqd (Cb 42 i) 1) hns3 hn8 n 0 Ca hns0 hn0 rfl (fun i _ hi => (hqr i hi).1) (by omega)
  obtain ⟨F3, c3, c4⟩ := Q97_t d1 L p0 p2 cr2 cr3 s4 ns n t (Ca 1) (fun i => zqd (Cb 43 i) 1) hns3 hn8 ht8 (fun i => Cb 43 i 9 = -1) t 0 (zcs Ca 2 F2) (by rw [zcs_n _ _ (by decide)]; exact hns0) (by rw [zcs_n _ _ (by decide)]; exact hn0) (by rw [zcs_n _ _ (by decide)]; exact ht0) (zcs_n _ _ (by decide)) (fun i _ hi => by
    rw [zcs_n _ _ (by decide)]
    exact ⟨(hqt i hi).1, hfree i hi⟩) (by omega)
  rw [zcs_n _ _ (by decide)] at c4
  -- the model
  obtain ⟨B, b1, b2, b3⟩ := T225 (d2 + 4) L p0 p2 r2 r3 s4 n t Cb zmk zmk hn8 ht8 hn ht
  obtain ⟨D, e1, e2, e3⟩ := T226 d2 L p0 p2 r2 r3 s4 ns n t (zcs Cb 411 B) zmk hns3 hn8 ht8 (by rw [zcs_n _ _ (by decide)]; exact hns) (by rw [zcs_n _ _ (by decide)]; exact hn) (by rw [zcs_n _ _ (by decide)]; exact ht) (fun i hi => by rw [zcs_eq, b2 i hi]; exact (hqr i hi).2) (fun i hi _ => by rw [zcs_eq, b3 i hi]; exact (hqt i hi).2)
  rw [zcs_cs] at e1
  simp (disch := omega) only [zcs_eq, zcs_n] at e2 e3
  obtain ⟨G2, v, f1, f2⟩ := Q229_2 (d2 + 4) L p0 p2 r2 r3 s4 n (D 0) hn8 n 0 (zcs Cb 411 D) zmk (by rw [zcs_n _ _ (by decide)]; exact hn) (by rw [zcs_eq]) (by omega)
  obtain ⟨G3, g1, g2⟩ := Q229_59 (d2 + 4) L p0 p2 r2 r3 s4 t (D 0) ht8 t 0 (zcs (zcs Cb 411 D) 42 G2) v (by rw [zcs_n _ _ (by decide), zcs_n _ _ (by decide)]; exact ht) (by rw [zcs_n _ _ (by decide), zcs_eq]) (by omega)
  rw [zcs_n _ _ (by decide)] at f2
  rw [zcs_n _ _ (by decide), zcs_n _ _ (by decide)] at g2
  rw [zn0] at c1 c3 f1 g1
  refine ⟨zcs (zcs Ca 2 F2) 3 F3, zcs (zcs (zcs Cb 411 D) 42 G2) 43 G3, ?_, ?_, ?_, zFa_s (zFa_s (zFa_r _) (by omega)) (by omega), zFb_s (zFb_s (zFb_s (zFb_r _) (by omega)) (by omega)) (by omega), by rw [zcs_n _ _ (by decide), zcs_n _ _ (by decide), zcs_n _ _ (by decide)]⟩
  · rw [e97_0, c1, c3]
  · have h229 : zR (d2 + 4) 229 0 [.ref 201, zmk, zmk] [] (zZ L, zI (zcs Cb 411 D), zPd p0 p2 r2 r3 s4) = some (none, (zZ L, zI (zcs (zcs (zcs Cb 411 D) 42 G2) 43 G3), zPd p0 p2 r2 r3 s4)) := by rw [e229_0, f1, g1]
    simp +decide (disch := omega) only [e204_36, e204_40, e204_44, b1, e1, h229, zpre, ite_self, Nat.reduceAdd, zs1, zs2, zs3, zI_eqb, and_self, not_true_eq_false, if_true, if_false, ite_true, ite_false, not_false_eq_true, zBP, zBZ, zisO, zisA, zlen, decide_true, decide_false, Bool.and_self, Bool.and_true, Bool.true_and, cond_true, cond_false, zBG, zBR, zBU, zBV, zinb_n, zix_n, zlA, zlB, zlM, zlN, zlX, zlI, nI_add, Nat.add_eq_zero_iff, false_and, and_false, and_true, true_and, true_or, or_true, false_or, or_false, zbool_i, zb0, zb1, zshp_0, zcs_eq, zcs_n, zcs_cs, zup_g, zup_n, zg_srock2, zg_stug2, zg_ssun, zg_ssun0, zg_srock, zg_srock0, zg_stug, zg_stug0, zg_sord, zg_sord0, zg_srep, zg_srep0, zg_scla, zg_scla0, zg_scon, zg_scon0, zg_swin, zg_swin0, zg_sleg, zg_sleg0, zg_spro, zg_sstp, zg_swrd, zu_srock2, zu_stug2, zu_ssun, zu_ssun0, zu_srock, zu_srock0, zu_stug, zu_stug0, zu_sord, zu_sord0, zu_srep, zu_srep0, zu_scla, zu_scla0, zu_scon, zu_scon0, zu_swin, zu_swin0, zu_sleg, zu_sleg0, zu_spro, zu_sstp, zu_swrd]
  · unfold zWW
    simp (disch := omega) only [zcs_eq, zcs_n]
    refine ⟨w, hG, hS, ?_, ?_, hO, hE, hC, hK, hW, hL, hP⟩
    · intro i hi
      rw [hn, zix_n (by omega)] at hi
      obtain ⟨k1, k2, k3, k4, k5, k6, k7, k8, k9⟩ := hRR' i hi
      have qa := c2.1 i (Nat.zero_le _) hi trivial
      have qb := f2.1 i (Nat.zero_le _) hi trivial
      dsimp only at qa qb
      rw [show 4 * (0 + i) = 4 * i by omega, e2 i hi, b2 i hi] at qb
      rw [hzd, ← qb] at qa
      have qB : zBq (zqd (G2 i) 1) := by rw [qb]; exact zdr_B _ _ (hqr i hi).2
      obtain ⟨a1, a2, a3, a4⟩ := zqd_e qa
      have o1 := c2.2.2 i
      have o2 := f2.2.2 i
      unfold zRR1
      rw [o1 10 (by omega), o2 10 (by omega), o2 0 (by omega), o2 5 (by omega), o2 6 (by omega), o2 7 (by omega), o2 8 (by omega), o2 9 (by omega)]
      refine ⟨fun f hf hf2 => ?_, k2, k3, fun f hf hf2 => ?_, k5, k6, k7, k8, k9⟩
      · by_cases ef : 1 ≤ f ∧ f ≤ 4
        · rcases (show f = 1 ∨ f = 2 ∨ f = 3 ∨ f = 4 by omega) with rfl | rfl | rfl | rfl
          · exact a1
          · exact a2
          · exact a3
          · exact a4
        · rw [o1 f ef, o2 f ef]; exact k1 f hf hf2
      · rcases (show f = 1 ∨ f = 2 ∨ f = 3 ∨ f = 4 by omega) with rfl | rfl | rfl | rfl
        · exact qB.1
        · exact qB.2.1
        · exact qB.2.2.1
        · exact qB.2.2.2
    · intro i hi
      rw [ht, zix_n (by omega)] at hi
      obtain ⟨k1, k2, k3, k4, k5, k6, k7, k8, k9, k10, k11, k12⟩ := hT' i hi
      have qb := g2.1 i (Nat.zero_le _) hi trivial
      dsimp only at qb
      rw [e3 i hi, b3 i hi] at qb
      have hab : zqd (F3 i) 1 = zqd (G3 i) 1 ∧ zBq (zqd (G3 i) 1) := by
        by_cases es : Cb 43 i 9 = -1
        · rw [if_pos es] at qb
          have qa := c4.1 i (Nat.zero_le _) hi es
          dsimp only at qa
          rw [hzd, ← qb] at qa
          exact ⟨qa, by rw [qb]; exact zdr_B _ _ (hqt i hi).2⟩
        · rw [if_neg es] at qb
          have oo := c4.2.1 i (fun q => es q.2.2)
          refine ⟨?_, by rw [qb]; exact (hqt i hi).2⟩
          rw [qb, ← (hqt i hi).1]
          unfold zqd
          rw [oo, oo, oo, oo]
      obtain ⟨qa, qB⟩ := hab
      obtain ⟨a1, a2, a3, a4⟩ := zqd_e qa
      have o1 := c4.2.2 i
      have o2 := g2.2.2 i
      unfold zRT1
      rw [o1 9 (by omega), o1 10 (by omega), o1 15 (by omega), o1 22 (by omega), o2 0 (by omega), o2 5 (by omega), o2 6 (by omega), o2 7 (by omega), o2 8 (by omega), o2 9 (by omega), o2 10 (by omega), o2 14 (by omega), o2 15 (by omega), o2 16 (by omega), o2 22 (by omega)]
      refine ⟨fun f hf hf2 hf3 => ?_, k2, k3, k4, fun f hf hf2 => ?_, k6, k7, k8, k9, k10, k11, k12.imp id (fun ⟨z1, z2, z3⟩ => ⟨z1, fun j hj => by rw [o1 _ (by omega), o2 _ (by omega)]; exact z2 j hj, z3⟩)⟩
      · by_cases ef : 1 ≤ f ∧ f ≤ 4
        · rcases (show f = 1 ∨ f = 2 ∨ f = 3 ∨ f = 4 by omega) with rfl | rfl | rfl | rfl
          · exact a1
          · exact a2
          · exact a3
          · exact a4
        · rw [o1 f ef, o2 f ef]; exact k1 f hf hf2 hf3
      · rcases (show f = 1 ∨ f = 2 ∨ f = 3 ∨ f = 4 by omega) with rfl | rfl | rfl | rfl
        · exact qB.1
        · exact qB.2.1
        · exact qB.2.2.1
        · exact qB.2.2.2

