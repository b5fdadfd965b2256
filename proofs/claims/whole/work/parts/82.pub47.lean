/-! THE RUN: an E worked out, printed by wip/gen/pub47.py -/
theorem zopw_1 {op w : Int32} (h : (op, w) ∈ zopw) (e : w = 1) : op = 16 := by
  unfold zopw at h
  simp only [List.mem_cons, Prod.mk.injEq, List.not_mem_nil, or_false] at h
  rcases h with ⟨rfl, rfl⟩ | ⟨rfl, rfl⟩ | ⟨rfl, rfl⟩ | ⟨rfl, rfl⟩ | ⟨rfl, rfl⟩ | ⟨rfl, rfl⟩ | ⟨rfl, rfl⟩ | ⟨rfl, rfl⟩ | ⟨rfl, rfl⟩ | ⟨rfl, rfl⟩ | ⟨rfl, rfl⟩ | ⟨rfl, rfl⟩ | ⟨rfl, rfl⟩ <;> first | rfl | exact absurd e (by decide)
theorem zopw_2 {op w : Int32} (h : (op, w) ∈ zopw) (e : w = 2) : op = 17 := by
  unfold zopw at h
  simp only [List.mem_cons, Prod.mk.injEq, List.not_mem_nil, or_false] at h
  rcases h with ⟨rfl, rfl⟩ | ⟨rfl, rfl⟩ | ⟨rfl, rfl⟩ | ⟨rfl, rfl⟩ | ⟨rfl, rfl⟩ | ⟨rfl, rfl⟩ | ⟨rfl, rfl⟩ | ⟨rfl, rfl⟩ | ⟨rfl, rfl⟩ | ⟨rfl, rfl⟩ | ⟨rfl, rfl⟩ | ⟨rfl, rfl⟩ | ⟨rfl, rfl⟩ <;> first | rfl | exact absurd e (by decide)
theorem zopw_3 {op w : Int32} (h : (op, w) ∈ zopw) (e : w = 3) : op = 33 := by
  unfold zopw at h
  simp only [List.mem_cons, Prod.mk.injEq, List.not_mem_nil, or_false] at h
  rcases h with ⟨rfl, rfl⟩ | ⟨rfl, rfl⟩ | ⟨rfl, rfl⟩ | ⟨rfl, rfl⟩ | ⟨rfl, rfl⟩ | ⟨rfl, rfl⟩ | ⟨rfl, rfl⟩ | ⟨rfl, rfl⟩ | ⟨rfl, rfl⟩ | ⟨rfl, rfl⟩ | ⟨rfl, rfl⟩ | ⟨rfl, rfl⟩ | ⟨rfl, rfl⟩ <;> first | rfl | exact absurd e (by decide)
theorem zopw_4 {op w : Int32} (h : (op, w) ∈ zopw) (e : w = 4) : op = 18 := by
  unfold zopw at h
  simp only [List.mem_cons, Prod.mk.injEq, List.not_mem_nil, or_false] at h
  rcases h with ⟨rfl, rfl⟩ | ⟨rfl, rfl⟩ | ⟨rfl, rfl⟩ | ⟨rfl, rfl⟩ | ⟨rfl, rfl⟩ | ⟨rfl, rfl⟩ | ⟨rfl, rfl⟩ | ⟨rfl, rfl⟩ | ⟨rfl, rfl⟩ | ⟨rfl, rfl⟩ | ⟨rfl, rfl⟩ | ⟨rfl, rfl⟩ | ⟨rfl, rfl⟩ <;> first | rfl | exact absurd e (by decide)
theorem zopw_j {op w : Int32} (h : (op, w) ∈ zopw) (h1 : ¬ w = 1) (h2 : ¬ w = 2) (h3 : ¬ w = 3) (h4 : ¬ w = 4) : ¬ op ≤ 15 ∧ ¬ op = 16 ∧ ¬ op = 17 ∧ ¬ op = 18 ∧ ¬ op = 33 := by
  unfold zopw at h
  simp only [List.mem_cons, Prod.mk.injEq, List.not_mem_nil, or_false] at h
  rcases h with ⟨rfl, rfl⟩ | ⟨rfl, rfl⟩ | ⟨rfl, rfl⟩ | ⟨rfl, rfl⟩ | ⟨rfl, rfl⟩ | ⟨rfl, rfl⟩ | ⟨rfl, rfl⟩ | ⟨rfl, rfl⟩ | ⟨rfl, rfl⟩ | ⟨rfl, rfl⟩ | ⟨rfl, rfl⟩ | ⟨rfl, rfl⟩ | ⟨rfl, rfl⟩ <;> first | decide | exact absurd rfl h1 | exact absurd rfl h2 | exact absurd rfl h3 | exact absurd rfl h4
theorem zopw_15 {op w : Int32} (h : (op, w) ∈ zopw) : ¬ op ≤ 15 := by
  unfold zopw at h
  simp only [List.mem_cons, Prod.mk.injEq, List.not_mem_nil, or_false] at h
  rcases h with ⟨rfl, rfl⟩ | ⟨rfl, rfl⟩ | ⟨rfl, rfl⟩ | ⟨rfl, rfl⟩ | ⟨rfl, rfl⟩ | ⟨rfl, rfl⟩ | ⟨rfl, rfl⟩ | ⟨rfl, rfl⟩ | ⟨rfl, rfl⟩ | ⟨rfl, rfl⟩ | ⟨rfl, rfl⟩ | ⟨rfl, rfl⟩ | ⟨rfl, rfl⟩ <;> decide
theorem zdp_le {W : zGp} : ∀ {n j s s' : Nat}, zdp W n j s = some s' → s ≤ s' + n := by
  intro n
  induction n with
  | zero =>
    intro j s s' h
    simp only [zdp, Option.some.injEq] at h
    omega
  | succ n IH =>
    intro j s s' h
    simp only [zdp] at h
    split at h
    · have := IH h; omega
    · split at h
      · split at h
        · have := IH h; omega
        · exact absurd h (by simp)
      · split at h
        · have := IH h; omega
        · exact absurd h (by simp)
theorem zSF_r (C : zCt) : zSF C C := ⟨rfl, fun _ _ _ => rfl⟩
theorem zSF_t {A B C : zCt} (h1 : zSF A B) (h2 : zSF B C) : zSF A C := ⟨h2.1.trans h1.1, fun g a b => (h2.2 g a b).trans (h1.2 g a b)⟩
theorem zWu_s {w : Nat → Nat → Nat} {u : Nat} {sa sb : Int32} {Ca Cb Ca' Cb' : zCt} (h : zWu w u sa sb Ca Cb) (h1 : zSF Ca Ca') (h2 : ∀ g, g ≠ 410 → Cb' g = Cb g) : zWu w u sa sb Ca' Cb' := by
  unfold zWu at h ⊢
  rw [h1.2 0 (by decide) (by decide), h1.2 1 (by decide) (by decide), h1.2 2 (by decide) (by decide), h1.2 3 (by decide) (by decide), h1.2 4 (by decide) (by decide), h1.2 5 (by decide) (by decide), h1.2 6 (by decide) (by decide), h1.2 7 (by decide) (by decide), h1.2 8 (by decide) (by decide), h1.2 9 (by decide) (by decide), h2 40 (by decide), h2 41 (by decide), h2 42 (by decide), h2 43 (by decide), h2 44 (by decide), h2 45 (by decide), h2 46 (by decide), h2 47 (by decide), h2 48 (by decide), h2 49 (by decide)]
  obtain ⟨hG, hS, hRR, hT, hO, hE, hC, hK, hW, hL, hP⟩ := h
  refine ⟨hG, hS, hRR, hT, hO, hE, hC, hK, hW, hL, fun p hp => ?_⟩
  rw [h1.2 (10 + p % 4) (by omega) (by omega), h2 (50 + p % 4) (by omega), h2 (54 + p % 4) (by omega)]
  exact hP p hp
theorem EV (d1 d2 L p0 p2 r2 r3 s4 : Nat) (w : Nat → Nat → Nat) (u : Nat) (sa sb : Int32) (hu4 : u < 4) (p k B U : Nat) (hp : p < 4) (hB : B ≤ 120) (hU1 : U ≤ 120) (st x3 : Int32) : ∀ (n j s s' b : Nat) (Ca Cb : zCt) (v4 v7 v8 : Value), zWu w u sa sb Ca Cb → Ca 0 0 (14 + p) = nI U → k + j + n ≤ U → j + n ≤ B → (∀ i, j ≤ i → i < j + n → zwr (Ca (10 + p) (k + i) 0) (Ca (10 + p) (k + i) 1) (Cb (54 + p) i 0) (Cb (54 + p) i 1)) → zdp (Cb (54 + p)) n j s = some s' → Ca 392 0 1 = nI (b + s) → (∀ i, i < s → Ca 393 0 (b + i) = Cb 410 0 i) → s + n ≤ 119 → s' ≤ 1 → b ≤ 1 → ∃ (Ca' Cb' : zCt) (v4' v7' v8' : Value), zR (d1 + 5) 52 7 [.ref 192, .ref (85 + 2 * p), .int st, .int (nI (k + j)), v4] [] (zZ L, zI Ca, zPd p0 p2 2 (45 + 4 * u) s4) = zR (d1 + 5) 52 7 [.ref 192, .ref (85 + 2 * p), .int st, .int (nI (k + j + n)), v4'] [] (zZ L, zI Ca', zPd p0 p2 2 (45 + 4 * u) s4) ∧ zR (d2 + 5) 210 6 [.ref 201, .int (nI u), .int (nI p), .int x3, .int (nI B), .int (nI (s)), .int (nI (j)), v7, v8] [] (zZ L, zI Cb, zPd p0 p2 r2 r3 s4) = zR (d2 + 5) 210 6 [.ref 201, .int (nI u), .int (nI p), .int x3, .int (nI B), .int (nI (s')), .int (nI (j + n)), v7', v8'] [] (zZ L, zI Cb', zPd p0 p2 r2 r3 s4) ∧ Ca' 392 0 1 = nI (b + s') ∧ (∀ i, i < s' → Ca' 393 0 (b + i) = Cb' 410 0 i) ∧ (∀ i, i < b → Ca' 393 0 i = Ca 393 0 i) ∧ zSF Ca Ca' ∧ ∀ g, g ≠ 410 → Cb' g = Cb g := by
  intro n
  induction n with
  | zero =>
    intro j s s' b Ca Cb v4 v7 v8 h hU hk hj hA hd hgt hst hsn hs' hb
    simp only [zdp, Option.some.injEq] at hd
    subst hd
    exact ⟨Ca, Cb, v4, v7, v8, rfl, rfl, hgt, hst, fun _ _ => rfl, zSF_r _, fun _ _ => rfl⟩
  | succ n IH =>
    intro j s s' b Ca Cb v4 v7 v8 h hU hk hj hA hd hgt hst hsn hs' hb
    have hle := zdp_le hd
    have hw := hA j (Nat.le_refl _) (by omega)
    simp only [zdp] at hd
    by_cases g1 : Cb (54 + p) j 0 = 1
    · rw [if_pos (Or.inl g1)] at hd
      obtain ⟨v4', Ca1, c1, c2, c3, c4, c5⟩ := C52_num d1 L p0 p2 s4 u Ca hp (row := k + j) (U := U) (by omega) hU1 hU (h := b + s) (by omega) (hgt) v4 st (zopw_1 hw.1 g1)
      obtain ⟨v7', v8', m1⟩ := M210_num d2 L p0 p2 r2 r3 s4 u Cb hp (j := j) (B := B) (s := s) (by omega) hB (by omega) x3 v7 v8 g1
      have hb1 : ∀ g, g ≠ 410 → (zcs Cb 410 (zup (Cb 410) 0 s (Cb (54 + p) j 1))) g = Cb g := fun g hg => by rw [zcs_n _ _ hg]
      obtain ⟨Ca2, Cb2, w4, w7, w8, f1, f2, f3, f4, f5, f6, f7⟩ := IH (j + 1) (s + 1) s' b Ca1 (zcs Cb 410 (zup (Cb 410) 0 s (Cb (54 + p) j 1))) v4' v7' v8' (zWu_s h c5 hb1) (by rw [c5.2 _ (by decide) (by decide)]; exact hU) (by omega) (by omega) (fun i hi hi2 => by rw [c5.2 _ (by omega) (by omega), hb1 _ (by omega)]; exact hA i (by omega) (by omega)) (by rw [hb1 _ (by omega)]; exact hd) c2 (fun i hi => by
        rw [zcs_eq]
        by_cases e : i = s
        · rw [e, c3, zup_g]; exact hw.2.1
        · rw [c4 _ (by omega), zup_n _ _ (by omega)]
          exact hst i (by omega)) (by omega) hs' hb
      refine ⟨Ca2, Cb2, w4, w7, w8, c1.trans (by rw [show k + j + 1 = k + (j + 1) by omega, f1, show k + (j + 1) + n = k + j + (n + 1) by omega]), m1.trans (by rw [f2, show j + 1 + n = j + (n + 1) by omega]), f3, f4, fun i hi => by rw [f5 i hi]; exact c4 i (by omega), zSF_t c5 f6, fun g hg => by rw [f7 g hg]; exact hb1 g hg⟩
    by_cases g2 : Cb (54 + p) j 0 = 2
    · rw [if_pos (Or.inr g2)] at hd
      obtain ⟨x, sx1, sx2⟩ := S_all (Cb (54 + p) j 1) (hw.2.2 g2) d1 d2 L p0 p2 r2 r3 s4 w u sa sb Ca Cb hu4 h
      rw [← hw.2.1] at sx1
      obtain ⟨v4', Ca1, c1, c2, c3, c4, c5⟩ := C52_name d1 L p0 p2 s4 u Ca hp (row := k + j) (U := U) (by omega) hU1 hU (h := b + s) (by omega) (hgt) v4 st (zopw_2 hw.1 g2) x sx1
      obtain ⟨v7', v8', m1⟩ := M210_name d2 L p0 p2 r2 r3 s4 u Cb hp (j := j) (B := B) (s := s) (by omega) hB (by omega) x3 v7 v8 g2 x sx2
      have hb1 : ∀ g, g ≠ 410 → (zcs Cb 410 (zup (Cb 410) 0 s x)) g = Cb g := fun g hg => by rw [zcs_n _ _ hg]
      obtain ⟨Ca2, Cb2, w4, w7, w8, f1, f2, f3, f4, f5, f6, f7⟩ := IH (j + 1) (s + 1) s' b Ca1 (zcs Cb 410 (zup (Cb 410) 0 s x)) v4' v7' v8' (zWu_s h c5 hb1) (by rw [c5.2 _ (by decide) (by decide)]; exact hU) (by omega) (by omega) (fun i hi hi2 => by rw [c5.2 _ (by omega) (by omega), hb1 _ (by omega)]; exact hA i (by omega) (by omega)) (by rw [hb1 _ (by omega)]; exact hd) c2 (fun i hi => by
        rw [zcs_eq]
        by_cases e : i = s
        · rw [e, c3, zup_g]
        · rw [c4 _ (by omega), zup_n _ _ (by omega)]
          exact hst i (by omega)) (by omega) hs' hb
      refine ⟨Ca2, Cb2, w4, w7, w8, c1.trans (by rw [show k + j + 1 = k + (j + 1) by omega, f1, show k + (j + 1) + n = k + j + (n + 1) by omega]), m1.trans (by rw [f2, show j + 1 + n = j + (n + 1) by omega]), f3, f4, fun i hi => by rw [f5 i hi]; exact c4 i (by omega), zSF_t c5 f6, fun g hg => by rw [f7 g hg]; exact hb1 g hg⟩
    rw [if_neg (by rintro (e | e); exact g1 e; exact g2 e)] at hd
    by_cases g3 : Cb (54 + p) j 0 = 3
    · rw [if_pos (Or.inl g3)] at hd
      by_cases hs1 : 1 ≤ s
      case neg => rw [if_neg hs1] at hd; exact absurd hd (by simp)
      rw [if_pos hs1] at hd
      obtain ⟨q, rfl⟩ : ∃ q, s = q + 1 := ⟨s - 1, by omega⟩
      have ht := hst q (by omega)
      by_cases hz : Cb 410 0 q = 0
      · obtain ⟨v4', Ca1, c1, c2, c3, c4, c5⟩ := C52_not1 d1 L p0 p2 s4 u Ca hp (row := k + j) (U := U) (by omega) hU1 hU (h := b + q) (by omega) (by rw [hgt]; rfl) v4 st (zopw_3 hw.1 g3) (ht.trans hz)
        obtain ⟨v7', v8', m1⟩ := M210_not1 d2 L p0 p2 r2 r3 s4 u Cb hp (j := j) (B := B) (s := q) (by omega) hB (by omega) x3 v7 v8 g3 hz
        have hb1 : ∀ g, g ≠ 410 → (zcs Cb 410 (zup (Cb 410) 0 q 1)) g = Cb g := fun g hg => by rw [zcs_n _ _ hg]
        obtain ⟨Ca2, Cb2, w4, w7, w8, f1, f2, f3, f4, f5, f6, f7⟩ := IH (j + 1) (q + 1) s' b Ca1 (zcs Cb 410 (zup (Cb 410) 0 q 1)) v4' v7' v8' (zWu_s h c5 hb1) (by rw [c5.2 _ (by decide) (by decide)]; exact hU) (by omega) (by omega) (fun i hi hi2 => by rw [c5.2 _ (by omega) (by omega), hb1 _ (by omega)]; exact hA i (by omega) (by omega)) (by rw [hb1 _ (by omega)]; exact hd) c2 (fun i hi => by
          rw [zcs_eq]
          by_cases e : i = q
          · rw [e, c3, zup_g]
          · rw [c4 _ (by omega), zup_n _ _ (by omega)]
            exact hst i (by omega)) (by omega) hs' hb
        refine ⟨Ca2, Cb2, w4, w7, w8, c1.trans (by rw [show k + j + 1 = k + (j + 1) by omega, f1, show k + (j + 1) + n = k + j + (n + 1) by omega]), m1.trans (by rw [f2, show j + 1 + n = j + (n + 1) by omega]), f3, f4, fun i hi => by rw [f5 i hi]; exact c4 i (by omega), zSF_t c5 f6, fun g hg => by rw [f7 g hg]; exact hb1 g hg⟩
      · obtain ⟨v4', Ca1, c1, c2, c3, c4, c5⟩ := C52_not0 d1 L p0 p2 s4 u Ca hp (row := k + j) (U := U) (by omega) hU1 hU (h := b + q) (by omega) (by rw [hgt]; rfl) v4 st (zopw_3 hw.1 g3) (by rw [ht]; exact hz)
        obtain ⟨v7', v8', m1⟩ := M210_not0 d2 L p0 p2 r2 r3 s4 u Cb hp (j := j) (B := B) (s := q) (by omega) hB (by omega) x3 v7 v8 g3 hz
        have hb1 : ∀ g, g ≠ 410 → (zcs Cb 410 (zup (Cb 410) 0 q 0)) g = Cb g := fun g hg => by rw [zcs_n _ _ hg]
        obtain ⟨Ca2, Cb2, w4, w7, w8, f1, f2, f3, f4, f5, f6, f7⟩ := IH (j + 1) (q + 1) s' b Ca1 (zcs Cb 410 (zup (Cb 410) 0 q 0)) v4' v7' v8' (zWu_s h c5 hb1) (by rw [c5.2 _ (by decide) (by decide)]; exact hU) (by omega) (by omega) (fun i hi hi2 => by rw [c5.2 _ (by omega) (by omega), hb1 _ (by omega)]; exact hA i (by omega) (by omega)) (by rw [hb1 _ (by omega)]; exact hd) c2 (fun i hi => by
          rw [zcs_eq]
          by_cases e : i = q
          · rw [e, c3, zup_g]
          · rw [c4 _ (by omega), zup_n _ _ (by omega)]
            exact hst i (by omega)) (by omega) hs' hb
        refine ⟨Ca2, Cb2, w4, w7, w8, c1.trans (by rw [show k + j + 1 = k + (j + 1) by omega, f1, show k + (j + 1) + n = k + j + (n + 1) by omega]), m1.trans (by rw [f2, show j + 1 + n = j + (n + 1) by omega]), f3, f4, fun i hi => by rw [f5 i hi]; exact c4 i (by omega), zSF_t c5 f6, fun g hg => by rw [f7 g hg]; exact hb1 g hg⟩
    by_cases g4 : Cb (54 + p) j 0 = 4
    · rw [if_pos (Or.inr g4)] at hd
      by_cases hs1 : 1 ≤ s
      case neg => rw [if_neg hs1] at hd; exact absurd hd (by simp)
      rw [if_pos hs1] at hd
      obtain ⟨q, rfl⟩ : ∃ q, s = q + 1 := ⟨s - 1, by omega⟩
      have ht := hst q (by omega)
      obtain ⟨v4', Ca1, c1, c2, c3, c4, c5⟩ := C52_neg d1 L p0 p2 s4 u Ca hp (row := k + j) (U := U) (by omega) hU1 hU (h := b + q) (by omega) (by rw [hgt]; rfl) v4 st (zopw_4 hw.1 g4)
      obtain ⟨v7', v8', m1⟩ := M210_neg d2 L p0 p2 r2 r3 s4 u Cb hp (j := j) (B := B) (s := q) (by omega) hB (by omega) x3 v7 v8 g4
      have hb1 : ∀ g, g ≠ 410 → (zcs Cb 410 (zup (Cb 410) 0 q (- Cb 410 0 q))) g = Cb g := fun g hg => by rw [zcs_n _ _ hg]
      obtain ⟨Ca2, Cb2, w4, w7, w8, f1, f2, f3, f4, f5, f6, f7⟩ := IH (j + 1) (q + 1) s' b Ca1 (zcs Cb 410 (zup (Cb 410) 0 q (- Cb 410 0 q))) v4' v7' v8' (zWu_s h c5 hb1) (by rw [c5.2 _ (by decide) (by decide)]; exact hU) (by omega) (by omega) (fun i hi hi2 => by rw [c5.2 _ (by omega) (by omega), hb1 _ (by omega)]; exact hA i (by omega) (by omega)) (by rw [hb1 _ (by omega)]; exact hd) c2 (fun i hi => by
        rw [zcs_eq]
        by_cases e : i = q
        · rw [e, c3, zup_g, ht]
        · rw [c4 _ (by omega), zup_n _ _ (by omega)]
          exact hst i (by omega)) (by omega) hs' hb
      refine ⟨Ca2, Cb2, w4, w7, w8, c1.trans (by rw [show k + j + 1 = k + (j + 1) by omega, f1, show k + (j + 1) + n = k + j + (n + 1) by omega]), m1.trans (by rw [f2, show j + 1 + n = j + (n + 1) by omega]), f3, f4, fun i hi => by rw [f5 i hi]; exact c4 i (by omega), zSF_t c5 f6, fun g hg => by rw [f7 g hg]; exact hb1 g hg⟩
    rw [if_neg (by rintro (e | e); exact g3 e; exact g4 e)] at hd
    by_cases hs2 : 2 ≤ s
    case neg => rw [if_neg hs2] at hd; exact absurd hd (by simp)
    rw [if_pos hs2] at hd
    obtain ⟨q, rfl⟩ : ∃ q, s = q + 2 := ⟨s - 2, by omega⟩
    have ht := hst q (by omega)
    have ht1 := hst (q + 1) (by omega)
    obtain ⟨o1, o2, o3, o4, o5⟩ := zopw_j hw.1 g1 g2 g3 g4
    obtain ⟨x, hx⟩ := J_all _ _ hw.1 g1 g2 g3 g4 (Cb 410 0 q) (Cb 410 0 (q + 1))
    obtain ⟨v4', Ca1, c1, c2, c3, c4, c5⟩ := C52_join d1 L p0 p2 s4 u Ca hp (row := k + j) (U := U) (by omega) hU1 hU (h := b + q) (by omega) (by rw [hgt]; rfl) v4 st _ rfl o1 o2 o3 o4 o5 x (fun D => by rw [show b + q + 1 = b + (q + 1) by omega, ht, ht1]; exact (hx (d1 + 4) 0 (zZ L) [] (zI D) (fun _ _ => 0) (zPd p0 p2 2 (45 + 4 * u) s4) (fun _ _ => 0)).1)
    obtain ⟨v7', v8', m1⟩ := M210_join d2 L p0 p2 r2 r3 s4 u Cb hp (j := j) (B := B) (s := q) (by omega) hB (by omega) x3 v7 v8 _ rfl g1 g2 g3 g4 x (hx 0 (d2 + 4) [] (zZ L) (fun _ _ => 0) (zI Cb) (fun _ _ => 0) (zPd p0 p2 r2 r3 s4)).2
    have hb1 : ∀ g, g ≠ 410 → (zcs Cb 410 (zup (Cb 410) 0 q x)) g = Cb g := fun g hg => by rw [zcs_n _ _ hg]
    obtain ⟨Ca2, Cb2, w4, w7, w8, f1, f2, f3, f4, f5, f6, f7⟩ := IH (j + 1) (q + 1) s' b Ca1 (zcs Cb 410 (zup (Cb 410) 0 q x)) v4' v7' v8' (zWu_s h c5 hb1) (by rw [c5.2 _ (by decide) (by decide)]; exact hU) (by omega) (by omega) (fun i hi hi2 => by rw [c5.2 _ (by omega) (by omega), hb1 _ (by omega)]; exact hA i (by omega) (by omega)) (by rw [hb1 _ (by omega)]; exact hd) c2 (fun i hi => by
      rw [zcs_eq]
      by_cases e : i = q
      · rw [e, c3, zup_g]
      · rw [c4 _ (by omega), zup_n _ _ (by omega)]
        exact hst i (by omega)) (by omega) hs' hb
    refine ⟨Ca2, Cb2, w4, w7, w8, c1.trans (by rw [show k + j + 1 = k + (j + 1) by omega, f1, show k + (j + 1) + n = k + j + (n + 1) by omega]), m1.trans (by rw [f2, show j + 1 + n = j + (n + 1) by omega]), f3, f4, fun i hi => by rw [f5 i hi]; exact c4 i (by omega), zSF_t c5 f6, fun g hg => by rw [f7 g hg]; exact hb1 g hg⟩
