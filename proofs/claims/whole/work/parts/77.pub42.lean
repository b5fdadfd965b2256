/-! THE RUN: what a tug does (8): give, printed by wip/gen/pub42.py -/
theorem zWu_k {w : Nat → Nat → Nat} {u : Nat} {sa sb : Int32} {Ca Cb : zCt} (h : zWu w u sa sb Ca Cb) (c : Nat) (A B : zGp) (hA : ∀ i, i ≠ c → A i = Ca 7 i) (hB : ∀ i, i ≠ c → B i = Cb 47 i) (hr : zRK1 (Cb 40 0 0) (Cb 40 0 5) (A c) (B c)) : zWu w u sa sb (zcs Ca 7 A) (zcs Cb 47 B) := by
  unfold zWu at h ⊢
  simp (disch := omega) only [zcs_eq, zcs_n]
  obtain ⟨hG, hS, hRR, hT, hO, hE, hC, hK, hW, hL, hP⟩ := h
  refine ⟨hG, hS, hRR, hT, hO, hE, hC, fun i hi => ?_, hW, hL, hP⟩
  by_cases e : i = c
  · rw [e]; exact hr
  · rw [hA i e, hB i e]; exact hK i hi
theorem zup_same (a : zGp) (i f : Nat) (v : Int32) (h : a i f = v) : zup a i f v = a := by
  funext x y
  by_cases e : x = i ∧ y = f
  · obtain ⟨rfl, rfl⟩ := e
    rw [zup_g, h]
  · exact if_neg e
theorem zRK1_new {td nr : Int32} {a b : zGp} {i t g m T : Nat} (h : zRK1 td nr (a i) (b i)) (hT : T ≤ 3000) (htd : td = nI T) (h1 : b i 1 = nI t) (h5 : b i 5 = nI g) (hg : g < t) (ht9 : t ≤ 999) (hm : m ≤ t - g) (h6 : b i 6 = -1) : zRK1 td nr ((if g + m = t then zup (zup a i 5 (nI (g + m))) i 6 td else zup a i 5 (nI (g + m))) i) ((if g + m = t then zup (zup b i 5 (nI (g + m))) i 6 td else zup b i 5 (nI (g + m))) i) := by
  obtain ⟨k1, k2, k3, ⟨t', g', q1, q2, q3, q4, q5, q6⟩, k5, k6, k7, k8, k9, k10⟩ := id h
  rw [h1] at q4
  have ht : t' < 1000 := by omega
  by_cases ge : g + m = t
  · rw [if_pos ge, if_pos ge]
    unfold zRK1
    simp (disch := omega) only [zup_g, zup_n]
    refine ⟨?_, by rw [htd, znn_n (by omega)], k3, ⟨t', t', q1, q2, Nat.le_refl _, by rw [h1]; exact q4, by rw [ge]; exact q4, fun e => ?_⟩, k5, k6, k7, Or.inr ⟨T, hT, htd⟩, k9, fun e => ?_⟩
    · intro f hf
      by_cases e : f = 5
      · subst e; simp (disch := omega) only [zup_g, zup_n]
      · simp (disch := omega) only [zup_n]; exact k1 f hf
    · rw [htd, nI_m (by omega)] at e; exact e.elim
    · rw [htd, nI_m (by omega)] at e; exact e.elim
  · rw [if_neg ge, if_neg ge]
    unfold zRK1
    simp (disch := omega) only [zup_g, zup_n]
    refine ⟨?_, k2, k3, ⟨t', g + m, q1, q2, ?_, by rw [h1]; exact q4, rfl, fun _ => ?_⟩, k5, k6, k7, k8, k9, k10⟩
    · intro f hf
      by_cases e : f = 5
      · subst e; simp (disch := omega) only [zup_g, zup_n]
      · simp (disch := omega) only [zup_n]; exact k1 f hf
    · have := (nI_eq (by omega) (by omega)).mp q4
      omega
    · have := (nI_eq (by omega) (by omega)).mp q4
      omega
theorem zRU_h0 {nr : Int32} {nb : Nat → Int32} {w : Nat → Nat → Nat} {sa sb : Int32} {a b : zGp} {u l m : Nat} (h : zRU nr nb w sa sb (zup a u 6 (nI l) u) (b u)) (hl : b u 6 = nI l) (hl9 : l < 1000) (hm : m ≤ l) : zRU nr nb w sa sb (zup a u 6 (nI m) u) (zup b u 6 (nI m) u) := by
  unfold zRU at h ⊢
  simp (disch := omega) only [zup_g, zup_n] at h ⊢
  obtain ⟨k1, k2, k3, k4, k5, k6, ⟨x, y, e6, e7, hxy⟩, k8, k9, k10, k11, k12⟩ := h
  refine ⟨?_, k2, k3, k4, ?_, k6, ?_, k8, k9, k10, k11, ?_⟩
  · intro f hf hf1 hf2
    by_cases e : f = 6
    · subst e; simp only [zup_g]
    · have := k1 f hf hf1 hf2
      simp (disch := omega) only [zup_n] at this ⊢
      exact this
  · intro f hf hf2; simp (disch := omega) only [zup_n]; exact k5 f hf hf2
  · have hxl : x = l := by
      have h2 : (if b u 0 = 1 then 100 else 20) ≤ 100 := by split <;> omega
      have := (nI_eq (by omega) (by omega)).mp (e6.symm.trans hl)
      omega
    exact ⟨m, y, rfl, e7, by omega⟩
  · rcases k12 with q | ⟨z1, z2, z3⟩
    · exact Or.inl q
    · exact Or.inr ⟨z1, fun j hj => by first | exact z2 j hj | (have := z2 j hj; simp (disch := omega) only [zup_n] at this ⊢; exact this), z3⟩
theorem G_0 (d1 d2 L p0 p2 r2 r3 s4 R : Nat) (w : Nat → Nat → Nat) (u : Nat) (sa sb : Int32) (hu : u < 4) (r n : Nat) (hr : r < 8) (hn8 : n ≤ 8) : ∀ (k i : Nat) (Ca Cb : zCt) (l : Nat) (v5 v6 y6 y7 : Value), i + k = n → l < 1000 → Cb 40 0 10 = nI n → Cb 43 u 9 = nI r → Cb 43 u 6 = nI l → zWu w u sa sb (zcs Ca 3 (zup (Ca 3) u 6 (nI l))) Cb → ∃ (A' : zGp) (Cb' : zCt) (l' : Nat) (x4 : Int32) (v5' v6' y6' y7' : Value), zR (d1 + 2) 64 13 [.ref 192, .ref R, .int 0, .int (nI l), .int (nI i), v5, v6] [] (zZ L, zI Ca, zPd p0 p2 2 (45 + 4 * u) s4) = zR (d1 + 2) 64 114 [.ref 192, .ref R, .int 0, .int (nI l'), .int x4, v5', v6'] [] (zZ L, zI (zcs Ca 7 A'), zPd p0 p2 2 (45 + 4 * u) s4) ∧ zR (d2 + 2) 220 45 [.ref 201, .int (nI u), .int (nI (160 + 28 * u)), .int (nI r), .int 0, .int (nI i), y6, y7] [] (zZ L, zI Cb, zPd p0 p2 r2 r3 s4) = zR (d2 + 2) 220 215 [.ref 201, .int (nI u), .int (nI (160 + 28 * u)), .int (nI r), .int 0, .int (nI n), y6', y7'] [] (zZ L, zI Cb', zPd p0 p2 r2 r3 s4) ∧ zWu w u sa sb (zcs (zcs Ca 7 A') 3 (zup (Ca 3) u 6 (nI l'))) Cb' ∧ l' ≤ l ∧ Cb' 43 u 6 = nI l' ∧ (l = 0 → A' = Ca 7 ∧ l' = 0) ∧ zFb Cb Cb' ∧ Cb' 40 = Cb 40 ∧ Cb' 42 = Cb 42 ∧ (∀ f, f ≠ 6 → Cb' 43 u f = Cb 43 u f) ∧ ∀ g, 50 ≤ g → Cb' g = Cb g := by
  intro k
  induction k with
  | zero =>
    intro i Ca Cb l v5 v6 y6 y7 hk hl hn hd hc h
    obtain rfl : i = n := by omega
    have hn0 : Ca 0 0 10 = nI i := by
      have := (zRG_e h.1).2.2.2.2.2.2.2.2.2.2.1
      rw [zcs_n _ _ (by decide)] at this
      exact this.trans hn
    refine ⟨Ca 7, Cb, l, nI i, v5, v6, y6, y7, ?_, M220_end_0 d2 L p0 p2 r2 r3 s4 u hu Cb hn8 y6 y7 hn (l := 0) (i := 0), by rw [zcs_self]; exact h, Nat.le_refl _, hc, fun e => ⟨rfl, e⟩, zFb_r _, rfl, rfl, fun _ _ => rfl, fun _ _ => rfl⟩
    rw [zcs_self]
    exact C64_end d1 L p0 p2 s4 R u hu Ca hn8 v5 v6 0 hn0 (i := 0) (l := l)
  | succ k IH =>
    intro i Ca Cb l v5 v6 y6 y7 hk hl hn hd hc h
    have hi : i < n := by omega
    have hi8 : i < 8 := by omega
    have hG0 := zRG_e h.1
    rw [zcs_n _ _ (by decide)] at hG0
    have hn0 : Ca 0 0 10 = nI n := hG0.2.2.2.2.2.2.2.2.2.2.1.trans hn
    have htd : Ca 0 0 0 = Cb 40 0 0 := hG0.1
    obtain ⟨hG, hS, hRR, ⟨hT, hU⟩, hO, hE, hC, hK, hW, hL, hP⟩ := id h
    rw [zcs_eq] at hU
    have hdk : Ca 3 u 9 = nI r := by
      have := hU.2.1
      rw [zup_n _ _ (by omega), hd, znn_n (by omega)] at this
      exact this
    obtain ⟨T, hT3, hTd⟩ := hG.2.1
    have hKi := hK i (by rw [hn, zix_n (by omega)]; exact hi)
    rw [zcs_n _ _ (by decide)] at hKi
    obtain ⟨k1, k2, k3, ⟨t, g, t1, t2, t3, t4, t5, t6⟩, k5, k6, k7, k8, k9, k10⟩ := id hKi
    by_cases fit : Cb 47 i 2 = nI r ∧ Cb 47 i 0 = 0 ∧ Cb 47 i 6 = -1 ∧ Cb 47 i 7 = 0
    case neg =>
      obtain ⟨z6, z7, em⟩ := M220_skip_0 d2 L p0 p2 r2 r3 s4 u hu Cb hn8 y6 y7 hi hn (l := 0) (r := r) (by
        by_cases g3 : Cb 47 i 6 = -1
        · by_cases g4 : Cb 47 i 7 = 0
          · by_cases g2 : Cb 47 i 0 = 0
            · exact Or.inr (Or.inr (Or.inr fun g1 => fit ⟨g1, g2, g3, g4⟩))
            · exact Or.inr (Or.inr (Or.inl g2))
          · exact Or.inr (Or.inl g4)
        · exact Or.inl g3)
      by_cases hl0 : l = 0
      · subst hl0
        obtain ⟨A', Cb', l', x4, v5', v6', y6', y7', c1, c2, c3, c4, c5, c6, c7⟩ := IH (i + 1) Ca Cb 0 v5 v6 z6 z7 (by omega) hl hn hd hc h
        obtain ⟨rfl, rfl⟩ := c6 rfl
        refine ⟨Ca 7, Cb', 0, nI i, v5, v6, y6', y7', ?_, em.trans c2, c3, c4, c5, fun _ => ⟨rfl, rfl⟩, c7⟩
        rw [zcs_self]
        exact C64_nil d1 L p0 p2 s4 R u hu Ca hn8 v5 v6 0 hi hn0 (l := 0)
      · obtain ⟨w5, w6, ec⟩ := C64_skip d1 L p0 p2 s4 R u hu Ca hn8 v5 v6 0 hi hn0 (l := l) (by omega) hl (by
          rw [hdk, k1 2 (by decide), k1 0 (by decide), k1 3 (by decide), htd, k2]
          by_cases g1 : Cb 47 i 2 = nI r
          · by_cases g2 : Cb 47 i 0 = 0
            · by_cases g3 : Cb 47 i 6 = -1
              · refine Or.inr (Or.inr (Or.inr ((k10 g3).mp ?_)))
                rcases k9 with k9 | k9
                · exact absurd ⟨g1, g2, g3, k9⟩ fit
                · exact k9
              · refine Or.inr (Or.inr (Or.inl ?_))
                rcases k8 with k8 | ⟨m, hm, em⟩
                · exact absurd k8 g3
                · rw [em, znn_n (by omega)]
                  exact fun e => by have := znone (r := m) (by omega); rw [← this]; exact e.symm
            · exact Or.inr (Or.inl g2)
          · exact Or.inl g1)
        obtain ⟨A', Cb', l', x4, v5', v6', y6', y7', c1, c2, c3, c4, c5, c6, c7⟩ := IH (i + 1) Ca Cb l w5 w6 z6 z7 (by omega) hl hn hd hc h
        exact ⟨A', Cb', l', x4, v5', v6', y6', y7', ec.trans c1, em.trans c2, c3, c4, c5, fun e => absurd e hl0, c7⟩
    obtain ⟨g1, g2, g3, g4⟩ := fit
    have hgt : g < t := t6 g3
    obtain ⟨m, hm⟩ : ∃ m, m = min l (t - g) := ⟨_, rfl⟩
    obtain ⟨z6, z7, em⟩ := M220_take_0 d2 L p0 p2 r2 r3 s4 u hu Cb hn8 y6 y7 hi hn (l := l) (r := r) (t := t) (g := g) (m := m) hl (by omega) hgt hm hc t4 t5 g1 g2 g3 g4
    have hnew := zRK1_new (a := Ca 7) (b := Cb 47) hKi hT3 hTd t4 t5 hgt (by omega) (m := m) (by omega) g3
    obtain ⟨A1, hA1⟩ : ∃ A1, A1 = (if g + m = t then zup (zup (Ca 7) i 5 (nI (g + m))) i 6 (Cb 40 0 0) else zup (Ca 7) i 5 (nI (g + m))) := ⟨_, rfl⟩
    obtain ⟨B1, hB1⟩ : ∃ B1, B1 = (if g + m = t then zup (zup (Cb 47) i 5 (nI (g + m))) i 6 (Cb 40 0 0) else zup (Cb 47) i 5 (nI (g + m))) := ⟨_, rfl⟩
    rw [← hB1] at em
    rw [← hA1, ← hB1] at hnew
    have hAr : ∀ j, j ≠ i → A1 j = Ca 7 j := fun j hj => by rw [hA1]; split <;> simp (disch := exact hj) only [zup_row]
    have hBr : ∀ j, j ≠ i → B1 j = Cb 47 j := fun j hj => by rw [hB1]; split <;> simp (disch := exact hj) only [zup_row]
    have h1 := zWu_t h (zup (Ca 3) u 6 (nI (l - m))) (zup (Cb 43) u 6 (nI (l - m))) (fun j hj => by rw [zcs_eq]; simp (disch := exact hj) only [zup_row]) (fun j hj => by simp (disch := exact hj) only [zup_row]) (zRU_h0 hU hc hl (by omega))
    rw [zcs_cs] at h1
    have h2 := zWu_k h1 i A1 B1 (fun j hj => by rw [zcs_n _ _ (by decide)]; exact hAr j hj) (fun j hj => by rw [zcs_n _ _ (by decide)]; exact hBr j hj) (by simp (disch := omega) only [zcs_n]; exact hnew)
    rw [zcs_comm Ca _ _ (by decide)] at h2
    have IH := IH (i + 1) (zcs Ca 7 A1) (zcs (zcs Cb 43 (zup (Cb 43) u 6 (nI (l - m)))) 47 B1) (l - m)
    rw [show (zcs Ca 7 A1) 3 = Ca 3 from zcs_n _ _ (by decide)] at IH
    by_cases hl0 : l = 0
    · subst hl0
      have hm0 : m = 0 := by omega
      have hA7 : A1 = Ca 7 := by rw [hA1, if_neg (by omega)]; exact zup_same _ _ _ _ (by rw [k1 5 (by decide), t5, hm0]; rfl)
      rw [hA7, zcs_self] at IH h2
      obtain ⟨A', Cb', l', x4, v5', v6', y6', y7', c1, c2, c3, c4, c5, c6, c7, c8, c9, c10, c11⟩ := IH v5 v6 z6 z7 (by omega) (by omega) (by simp (disch := omega) only [zcs_n]; exact hn) (by simp (disch := omega) only [zcs_n, zcs_eq, zup_n]; exact hd) (by simp (disch := omega) only [zcs_n, zcs_eq, zup_g]) h2
      obtain ⟨rfl, rfl⟩ := c6 (by omega)
      refine ⟨Ca 7, Cb', 0, nI i, v5, v6, y6', y7', ?_, em.trans c2, c3, by omega, c5, fun _ => ⟨rfl, rfl⟩, zFb_t (zFb_s (zFb_s (zFb_r _) (by omega)) (by omega)) c7, by rw [c8]; simp (disch := omega) only [zcs_n], by rw [c9]; simp (disch := omega) only [zcs_n], fun f hf => by rw [c10 f hf]; simp (disch := omega) only [zcs_n, zcs_eq, zup_n], fun g hg => by rw [c11 g hg]; simp (disch := omega) only [zcs_n]⟩
      rw [zcs_self]
      exact C64_nil d1 L p0 p2 s4 R u hu Ca hn8 v5 v6 0 hi hn0 (l := 0)
    · obtain ⟨w5, w6, ec⟩ := C64_take d1 L p0 p2 s4 R u hu Ca hn8 v5 v6 0 hi hn0 (l := l) (t := t) (g := g) (m := m) (by omega) hl (by omega) hgt hm (by rw [k1 1 (by decide)]; exact t4) (by rw [k1 5 (by decide)]; exact t5) (by rw [hdk, k1 2 (by decide)]; exact g1) (by rw [k1 0 (by decide)]; exact g2) (by rw [k2, g3]; rfl) (by
        rw [k1 3 (by decide), htd]
        intro e
        have := (k10 g3).mpr e
        rw [g4] at this
        exact absurd this (by decide))
      rw [htd, ← hA1] at ec
      obtain ⟨A', Cb', l', x4, v5', v6', y6', y7', c1, c2, c3, c4, c5, c6, c7, c8, c9, c10, c11⟩ := IH w5 w6 z6 z7 (by omega) (by omega) (by simp (disch := omega) only [zcs_n]; exact hn) (by simp (disch := omega) only [zcs_n, zcs_eq, zup_n]; exact hd) (by simp (disch := omega) only [zcs_n, zcs_eq, zup_g]) h2
      rw [zcs_cs] at c1 c3
      exact ⟨A', Cb', l', x4, v5', v6', y6', y7', ec.trans c1, em.trans c2, c3, by omega, c5, fun e => absurd e hl0, zFb_t (zFb_s (zFb_s (zFb_r _) (by omega)) (by omega)) c7, by rw [c8]; simp (disch := omega) only [zcs_n], by rw [c9]; simp (disch := omega) only [zcs_n], fun f hf => by rw [c10 f hf]; simp (disch := omega) only [zcs_n, zcs_eq, zup_n], fun g hg => by rw [c11 g hg]; simp (disch := omega) only [zcs_n]⟩
theorem zRU_h1 {nr : Int32} {nb : Nat → Int32} {w : Nat → Nat → Nat} {sa sb : Int32} {a b : zGp} {u l m : Nat} (h : zRU nr nb w sa sb (zup a u 7 (nI l) u) (b u)) (hl : b u 7 = nI l) (hl9 : l < 1000) (hm : m ≤ l) : zRU nr nb w sa sb (zup a u 7 (nI m) u) (zup b u 7 (nI m) u) := by
  unfold zRU at h ⊢
  simp (disch := omega) only [zup_g, zup_n] at h ⊢
  obtain ⟨k1, k2, k3, k4, k5, k6, ⟨x, y, e6, e7, hxy⟩, k8, k9, k10, k11, k12⟩ := h
  refine ⟨?_, k2, k3, k4, ?_, k6, ?_, k8, k9, k10, k11, ?_⟩
  · intro f hf hf1 hf2
    by_cases e : f = 7
    · subst e; simp only [zup_g]
    · have := k1 f hf hf1 hf2
      simp (disch := omega) only [zup_n] at this ⊢
      exact this
  · intro f hf hf2; simp (disch := omega) only [zup_n]; exact k5 f hf hf2
  · have hxl : y = l := by
      have h2 : (if b u 0 = 1 then 100 else 20) ≤ 100 := by split <;> omega
      have := (nI_eq (by omega) (by omega)).mp (e7.symm.trans hl)
      omega
    exact ⟨x, m, e6, rfl, by omega⟩
  · rcases k12 with q | ⟨z1, z2, z3⟩
    · exact Or.inl q
    · exact Or.inr ⟨z1, fun j hj => by first | exact z2 j hj | (have := z2 j hj; simp (disch := omega) only [zup_n] at this ⊢; exact this), z3⟩
theorem G_1 (d1 d2 L p0 p2 r2 r3 s4 R : Nat) (w : Nat → Nat → Nat) (u : Nat) (sa sb : Int32) (hu : u < 4) (r n : Nat) (hr : r < 8) (hn8 : n ≤ 8) : ∀ (k i : Nat) (Ca Cb : zCt) (l : Nat) (v5 v6 y6 y7 : Value), i + k = n → l < 1000 → Cb 40 0 10 = nI n → Cb 43 u 9 = nI r → Cb 43 u 7 = nI l → zWu w u sa sb (zcs Ca 3 (zup (Ca 3) u 7 (nI l))) Cb → ∃ (A' : zGp) (Cb' : zCt) (l' : Nat) (x4 : Int32) (v5' v6' y6' y7' : Value), zR (d1 + 2) 64 13 [.ref 192, .ref R, .int 1, .int (nI l), .int (nI i), v5, v6] [] (zZ L, zI Ca, zPd p0 p2 2 (45 + 4 * u) s4) = zR (d1 + 2) 64 114 [.ref 192, .ref R, .int 1, .int (nI l'), .int x4, v5', v6'] [] (zZ L, zI (zcs Ca 7 A'), zPd p0 p2 2 (45 + 4 * u) s4) ∧ zR (d2 + 2) 220 45 [.ref 201, .int (nI u), .int (nI (160 + 28 * u)), .int (nI r), .int 1, .int (nI i), y6, y7] [] (zZ L, zI Cb, zPd p0 p2 r2 r3 s4) = zR (d2 + 2) 220 215 [.ref 201, .int (nI u), .int (nI (160 + 28 * u)), .int (nI r), .int 1, .int (nI n), y6', y7'] [] (zZ L, zI Cb', zPd p0 p2 r2 r3 s4) ∧ zWu w u sa sb (zcs (zcs Ca 7 A') 3 (zup (Ca 3) u 7 (nI l'))) Cb' ∧ l' ≤ l ∧ Cb' 43 u 7 = nI l' ∧ (l = 0 → A' = Ca 7 ∧ l' = 0) ∧ zFb Cb Cb' ∧ Cb' 40 = Cb 40 ∧ Cb' 42 = Cb 42 ∧ (∀ f, f ≠ 7 → Cb' 43 u f = Cb 43 u f) ∧ ∀ g, 50 ≤ g → Cb' g = Cb g := by
  intro k
  induction k with
  | zero =>
    intro i Ca Cb l v5 v6 y6 y7 hk hl hn hd hc h
    obtain rfl : i = n := by omega
    have hn0 : Ca 0 0 10 = nI i := by
      have := (zRG_e h.1).2.2.2.2.2.2.2.2.2.2.1
      rw [zcs_n _ _ (by decide)] at this
      exact this.trans hn
    refine ⟨Ca 7, Cb, l, nI i, v5, v6, y6, y7, ?_, M220_end_1 d2 L p0 p2 r2 r3 s4 u hu Cb hn8 y6 y7 hn (l := 0) (i := 0), by rw [zcs_self]; exact h, Nat.le_refl _, hc, fun e => ⟨rfl, e⟩, zFb_r _, rfl, rfl, fun _ _ => rfl, fun _ _ => rfl⟩
    rw [zcs_self]
    exact C64_end d1 L p0 p2 s4 R u hu Ca hn8 v5 v6 1 hn0 (i := 0) (l := l)
  | succ k IH =>
    intro i Ca Cb l v5 v6 y6 y7 hk hl hn hd hc h
    have hi : i < n := by omega
    have hi8 : i < 8 := by omega
    have hG0 := zRG_e h.1
    rw [zcs_n _ _ (by decide)] at hG0
    have hn0 : Ca 0 0 10 = nI n := hG0.2.2.2.2.2.2.2.2.2.2.1.trans hn
    have htd : Ca 0 0 0 = Cb 40 0 0 := hG0.1
    obtain ⟨hG, hS, hRR, ⟨hT, hU⟩, hO, hE, hC, hK, hW, hL, hP⟩ := id h
    rw [zcs_eq] at hU
    have hdk : Ca 3 u 9 = nI r := by
      have := hU.2.1
      rw [zup_n _ _ (by omega), hd, znn_n (by omega)] at this
      exact this
    obtain ⟨T, hT3, hTd⟩ := hG.2.1
    have hKi := hK i (by rw [hn, zix_n (by omega)]; exact hi)
    rw [zcs_n _ _ (by decide)] at hKi
    obtain ⟨k1, k2, k3, ⟨t, g, t1, t2, t3, t4, t5, t6⟩, k5, k6, k7, k8, k9, k10⟩ := id hKi
    by_cases fit : Cb 47 i 2 = nI r ∧ Cb 47 i 0 = 1 ∧ Cb 47 i 6 = -1 ∧ Cb 47 i 7 = 0
    case neg =>
      obtain ⟨z6, z7, em⟩ := M220_skip_1 d2 L p0 p2 r2 r3 s4 u hu Cb hn8 y6 y7 hi hn (l := 0) (r := r) (by
        by_cases g3 : Cb 47 i 6 = -1
        · by_cases g4 : Cb 47 i 7 = 0
          · by_cases g2 : Cb 47 i 0 = 1
            · exact Or.inr (Or.inr (Or.inr fun g1 => fit ⟨g1, g2, g3, g4⟩))
            · exact Or.inr (Or.inr (Or.inl g2))
          · exact Or.inr (Or.inl g4)
        · exact Or.inl g3)
      by_cases hl0 : l = 0
      · subst hl0
        obtain ⟨A', Cb', l', x4, v5', v6', y6', y7', c1, c2, c3, c4, c5, c6, c7⟩ := IH (i + 1) Ca Cb 0 v5 v6 z6 z7 (by omega) hl hn hd hc h
        obtain ⟨rfl, rfl⟩ := c6 rfl
        refine ⟨Ca 7, Cb', 0, nI i, v5, v6, y6', y7', ?_, em.trans c2, c3, c4, c5, fun _ => ⟨rfl, rfl⟩, c7⟩
        rw [zcs_self]
        exact C64_nil d1 L p0 p2 s4 R u hu Ca hn8 v5 v6 1 hi hn0 (l := 0)
      · obtain ⟨w5, w6, ec⟩ := C64_skip d1 L p0 p2 s4 R u hu Ca hn8 v5 v6 1 hi hn0 (l := l) (by omega) hl (by
          rw [hdk, k1 2 (by decide), k1 0 (by decide), k1 3 (by decide), htd, k2]
          by_cases g1 : Cb 47 i 2 = nI r
          · by_cases g2 : Cb 47 i 0 = 1
            · by_cases g3 : Cb 47 i 6 = -1
              · refine Or.inr (Or.inr (Or.inr ((k10 g3).mp ?_)))
                rcases k9 with k9 | k9
                · exact absurd ⟨g1, g2, g3, k9⟩ fit
                · exact k9
              · refine Or.inr (Or.inr (Or.inl ?_))
                rcases k8 with k8 | ⟨m, hm, em⟩
                · exact absurd k8 g3
                · rw [em, znn_n (by omega)]
                  exact fun e => by have := znone (r := m) (by omega); rw [← this]; exact e.symm
            · exact Or.inr (Or.inl g2)
          · exact Or.inl g1)
        obtain ⟨A', Cb', l', x4, v5', v6', y6', y7', c1, c2, c3, c4, c5, c6, c7⟩ := IH (i + 1) Ca Cb l w5 w6 z6 z7 (by omega) hl hn hd hc h
        exact ⟨A', Cb', l', x4, v5', v6', y6', y7', ec.trans c1, em.trans c2, c3, c4, c5, fun e => absurd e hl0, c7⟩
    obtain ⟨g1, g2, g3, g4⟩ := fit
    have hgt : g < t := t6 g3
    obtain ⟨m, hm⟩ : ∃ m, m = min l (t - g) := ⟨_, rfl⟩
    obtain ⟨z6, z7, em⟩ := M220_take_1 d2 L p0 p2 r2 r3 s4 u hu Cb hn8 y6 y7 hi hn (l := l) (r := r) (t := t) (g := g) (m := m) hl (by omega) hgt hm hc t4 t5 g1 g2 g3 g4
    have hnew := zRK1_new (a := Ca 7) (b := Cb 47) hKi hT3 hTd t4 t5 hgt (by omega) (m := m) (by omega) g3
    obtain ⟨A1, hA1⟩ : ∃ A1, A1 = (if g + m = t then zup (zup (Ca 7) i 5 (nI (g + m))) i 6 (Cb 40 0 0) else zup (Ca 7) i 5 (nI (g + m))) := ⟨_, rfl⟩
    obtain ⟨B1, hB1⟩ : ∃ B1, B1 = (if g + m = t then zup (zup (Cb 47) i 5 (nI (g + m))) i 6 (Cb 40 0 0) else zup (Cb 47) i 5 (nI (g + m))) := ⟨_, rfl⟩
    rw [← hB1] at em
    rw [← hA1, ← hB1] at hnew
    have hAr : ∀ j, j ≠ i → A1 j = Ca 7 j := fun j hj => by rw [hA1]; split <;> simp (disch := exact hj) only [zup_row]
    have hBr : ∀ j, j ≠ i → B1 j = Cb 47 j := fun j hj => by rw [hB1]; split <;> simp (disch := exact hj) only [zup_row]
    have h1 := zWu_t h (zup (Ca 3) u 7 (nI (l - m))) (zup (Cb 43) u 7 (nI (l - m))) (fun j hj => by rw [zcs_eq]; simp (disch := exact hj) only [zup_row]) (fun j hj => by simp (disch := exact hj) only [zup_row]) (zRU_h1 hU hc hl (by omega))
    rw [zcs_cs] at h1
    have h2 := zWu_k h1 i A1 B1 (fun j hj => by rw [zcs_n _ _ (by decide)]; exact hAr j hj) (fun j hj => by rw [zcs_n _ _ (by decide)]; exact hBr j hj) (by simp (disch := omega) only [zcs_n]; exact hnew)
    rw [zcs_comm Ca _ _ (by decide)] at h2
    have IH := IH (i + 1) (zcs Ca 7 A1) (zcs (zcs Cb 43 (zup (Cb 43) u 7 (nI (l - m)))) 47 B1) (l - m)
    rw [show (zcs Ca 7 A1) 3 = Ca 3 from zcs_n _ _ (by decide)] at IH
    by_cases hl0 : l = 0
    · subst hl0
      have hm0 : m = 0 := by omega
      have hA7 : A1 = Ca 7 := by rw [hA1, if_neg (by omega)]; exact zup_same _ _ _ _ (by rw [k1 5 (by decide), t5, hm0]; rfl)
      rw [hA7, zcs_self] at IH h2
      obtain ⟨A', Cb', l', x4, v5', v6', y6', y7', c1, c2, c3, c4, c5, c6, c7, c8, c9, c10, c11⟩ := IH v5 v6 z6 z7 (by omega) (by omega) (by simp (disch := omega) only [zcs_n]; exact hn) (by simp (disch := omega) only [zcs_n, zcs_eq, zup_n]; exact hd) (by simp (disch := omega) only [zcs_n, zcs_eq, zup_g]) h2
      obtain ⟨rfl, rfl⟩ := c6 (by omega)
      refine ⟨Ca 7, Cb', 0, nI i, v5, v6, y6', y7', ?_, em.trans c2, c3, by omega, c5, fun _ => ⟨rfl, rfl⟩, zFb_t (zFb_s (zFb_s (zFb_r _) (by omega)) (by omega)) c7, by rw [c8]; simp (disch := omega) only [zcs_n], by rw [c9]; simp (disch := omega) only [zcs_n], fun f hf => by rw [c10 f hf]; simp (disch := omega) only [zcs_n, zcs_eq, zup_n], fun g hg => by rw [c11 g hg]; simp (disch := omega) only [zcs_n]⟩
      rw [zcs_self]
      exact C64_nil d1 L p0 p2 s4 R u hu Ca hn8 v5 v6 1 hi hn0 (l := 0)
    · obtain ⟨w5, w6, ec⟩ := C64_take d1 L p0 p2 s4 R u hu Ca hn8 v5 v6 1 hi hn0 (l := l) (t := t) (g := g) (m := m) (by omega) hl (by omega) hgt hm (by rw [k1 1 (by decide)]; exact t4) (by rw [k1 5 (by decide)]; exact t5) (by rw [hdk, k1 2 (by decide)]; exact g1) (by rw [k1 0 (by decide)]; exact g2) (by rw [k2, g3]; rfl) (by
        rw [k1 3 (by decide), htd]
        intro e
        have := (k10 g3).mpr e
        rw [g4] at this
        exact absurd this (by decide))
      rw [htd, ← hA1] at ec
      obtain ⟨A', Cb', l', x4, v5', v6', y6', y7', c1, c2, c3, c4, c5, c6, c7, c8, c9, c10, c11⟩ := IH w5 w6 z6 z7 (by omega) (by omega) (by simp (disch := omega) only [zcs_n]; exact hn) (by simp (disch := omega) only [zcs_n, zcs_eq, zup_n]; exact hd) (by simp (disch := omega) only [zcs_n, zcs_eq, zup_g]) h2
      rw [zcs_cs] at c1 c3
      exact ⟨A', Cb', l', x4, v5', v6', y6', y7', ec.trans c1, em.trans c2, c3, by omega, c5, fun e => absurd e hl0, zFb_t (zFb_s (zFb_s (zFb_r _) (by omega)) (by omega)) c7, by rw [c8]; simp (disch := omega) only [zcs_n], by rw [c9]; simp (disch := omega) only [zcs_n], fun f hf => by rw [c10 f hf]; simp (disch := omega) only [zcs_n, zcs_eq, zup_n], fun g hg => by rw [c11 g hg]; simp (disch := omega) only [zcs_n]⟩
