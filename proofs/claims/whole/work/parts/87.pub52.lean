/-! THE RUN: one S of a tug (3), printed by wip/gen/pub52.py -/
theorem zFa_sf {C D : zCt} (h : zSF C D) : zFa C D := fun g e => h.2 g e.2.1 e.2.2
theorem zFb_pi {C D : zCt} (h : ∀ g, g ≠ 410 → D g = C g) : zFb C D := fun g e => h g e.2.1
theorem zWu_fin {w : Nat → Nat → Nat} {u : Nat} {Ca Cb : zCt} {p K : Nat} (h : zWu w u (nI (K + w p K)) (nI K) Ca Cb) (hp : p < 4) (h10 : Cb 43 u 10 = nI p) (hK : K ≤ 120) (ha : Ca 3 u 15 = nI (K + w p K)) : zWW Ca (zcs Cb 43 (zup (Cb 43) u 15 (nI K))) := by
  obtain ⟨N, e1, hN, _⟩ := h.2.2.2.2.2.2.2.2.2.2 p hp
  have k11 := h.2.2.2.1.2.2.2.2.2.2.2.2.2.2.2.1
  have hKN : K ≤ N := by
    rcases k11 with q | ⟨p', k', h1, h2, h3, h4, h5⟩
    · rw [h10] at q
      exact absurd q (by rw [nI_m (by omega)]; exact id)
    · rw [h10] at h2
      obtain rfl : p = p' := (nI_eq (by omega) (by omega)).mp h2
      have hz : k' ≤ N := by
        have : zix (Cb 40 0 (14 + p)) = N := by rw [e1, zix_n (by omega)]
        rw [← this]; exact h4
      have := (nI_eq (a := K) (b := k') (by omega) (by omega)).mp h3
      omega
  exact zWu_to (zWu_setB h hp h10 e1 hN hKN (nI K)) ha (by rw [zcs_eq, zup_g])
theorem zSF_pop (C : zCt) (v : Int32) : zSF C (zcs C 392 (zup (C 392) 0 1 v)) := ⟨by rw [zcs_eq, zup_n _ _ (by omega)], fun g h1 h2 => by rw [zcs_n _ _ h1]⟩

theorem D_free (d1 d2 L p0 p2 r2 r3 s4 : Nat) (w : Nat → Nat → Nat) (u : Nat) (Ca Cb : zCt) (hu4 : u < 4) (hu : u < zix (Cb 40 0 6)) (hnum : Ca 392 0 4 = nI u) {p k N g : Nat} (h : zWu w u (nI (k + w p k)) (nI k) Ca Cb) (hp : p < 4) (hN : N ≤ 120) (hkN : k < N) (hg : g < 30) (h10 : Cb 43 u 10 = nI p) (h15 : Cb 43 u 15 = nI k) (hn : Cb 40 0 (14 + p) = nI N) (hU : Ca 0 0 (14 + p) = nI (N + w p N)) (hU1 : N + w p N ≤ 120) (hm : ∀ k, k < N → w p k ≤ w p (k + 1)) (hA : ∀ j, w p k ≤ j → j < w p (k + 1) → zwr (Ca (10 + p) (k + j) 0) (Ca (10 + p) (k + j) 1) (Cb (54 + p) j 0) (Cb (54 + p) j 1)) (hj : zR (d1 + 7) 51 0 [.ref (85 + 2 * p), .int (Ca 3 u 15), zmk, zmk] [] (zZ L, zI Ca, zPd p0 p2 2 (45 + 4 * u) s4) = some (some (.int (nI (k + w p k))), (zZ L, zI Ca, zPd p0 p2 2 (45 + 4 * u) s4))) (v5 v6 : Value) (hS : Cb (50 + p) k 0 = 4) (hop : Ca (10 + p) (k + w p (k + 1)) 0 = 3) (hw0 : w p (k + 1) = w p k) : zDay d1 d2 L p0 p2 r2 r3 s4 u g v5 v6 Ca Cb := by
  have hmk := hm k hkN
  have hmN := zmonw hm (show k + 1 ≤ N by omega) (Nat.le_refl N)
  have hW := W_0 (d1 + 1) d2 L p0 p2 r2 r3 s4 w u Ca Cb hu4 hu hnum h hp hN hkN hg h10 h15 hn hU hU1 hm hA hj v5 v6 (by rw [hop]; decide) hw0
  have z1 := zWu_s h (zSF_0 Ca) (fun _ _ => rfl)
  have z2 := zWu_setA z1 hp h10 hn hN (show k + 1 ≤ N by omega) (nI (k + w p (k + 1) + 1))
  obtain ⟨C2, hC2⟩ : ∃ C2, C2 = zcs (zcs Ca 392 (zup (Ca 392) 0 1 0)) 3 (zup ((zcs Ca 392 (zup (Ca 392) 0 1 0)) 3) u 15 (nI (k + w p (k + 1) + 1))) := ⟨_, rfl⟩
  have q2 : ∀ g, g ≠ 3 → C2 g = (zcs Ca 392 (zup (Ca 392) 0 1 0)) g := fun g hg => by rw [hC2, zcs_n _ _ hg]
  have q15 : C2 3 u 15 = nI (k + 1 + w p (k + 1)) := by rw [hC2, zcs_eq, zup_g, show k + w p (k + 1) + 1 = k + 1 + w p (k + 1) by omega]
  have qa : zFa Ca C2 := by rw [hC2]; exact zFa_s (zFa_sf (zSF_0 Ca)) (by omega)
  have q4 : C2 392 0 4 = Ca 392 0 4 := by rw [q2 392 (by decide)]; exact (zSF_0 Ca).1
  have qU : C2 0 0 (14 + p) = nI (N + w p N) := by rw [q2 0 (by decide), (zSF_0 Ca).2 0 (by decide) (by decide)]; exact hU
  have qop : C2 (10 + p) (k + w p (k + 1)) 0 = Ca (10 + p) (k + w p (k + 1)) 0 := by rw [q2 (10 + p) (by omega), (zSF_0 Ca).2 (10 + p) (by omega) (by omega)]
  rw [← hC2] at z2 hW
  obtain ⟨Ca', Cb', a1, a2, a3, a4, a5, ⟨c1, c2, c6, c0⟩, ⟨b1, b2, b3, b4⟩⟩ := A_free (d1 + 2) d2 L p0 p2 r2 r3 s4 w u _ _ C2 Cb hu4 hu (q4.trans hnum) z2
  have hm9 := M209_free d2 L p0 p2 r2 r3 s4 hu4 Cb Cb' hp (show k < 120 by omega) h15 hS a2
  refine ⟨Ca', (zcs Cb' 43 (zup (Cb' 43) u 15 (nI (k + 1)))), Or.inl ⟨hW.trans ?_, M208_0 d2 L p0 p2 r2 r3 s4 hu4 Cb hp hN hg h10 h15 hn v5 v6 hkN _ hm9⟩, zWu_fin a3 hp (by rw [b1]; exact h10) (by omega) (by rw [b3]; exact q15), zFa_t qa a4, zFb_s a5 (by omega), ?_, ?_, ?_⟩
  · rw [hop]
    exact C95_act (d1 + 7) L p0 p2 s4 u hu4 C2 hp (U := N + w p N) (by omega) hU1 qU _ _ _ (qop.trans hop) (by decide) Ca' a1
  · rw [c1]; exact q4
  · rw [zcs_n _ _ (by decide)]; exact c6
  · rw [zcs_n _ _ (by decide)]; exact c0

theorem D_dig (d1 d2 L p0 p2 r2 r3 s4 : Nat) (w : Nat → Nat → Nat) (u : Nat) (Ca Cb : zCt) (hu4 : u < 4) (hu : u < zix (Cb 40 0 6)) (hnum : Ca 392 0 4 = nI u) {p k N g : Nat} (h : zWu w u (nI (k + w p k)) (nI k) Ca Cb) (hp : p < 4) (hN : N ≤ 120) (hkN : k < N) (hg : g < 30) (h10 : Cb 43 u 10 = nI p) (h15 : Cb 43 u 15 = nI k) (hn : Cb 40 0 (14 + p) = nI N) (hU : Ca 0 0 (14 + p) = nI (N + w p N)) (hU1 : N + w p N ≤ 120) (hm : ∀ k, k < N → w p k ≤ w p (k + 1)) (hA : ∀ j, w p k ≤ j → j < w p (k + 1) → zwr (Ca (10 + p) (k + j) 0) (Ca (10 + p) (k + j) 1) (Cb (54 + p) j 0) (Cb (54 + p) j 1)) (hj : zR (d1 + 7) 51 0 [.ref (85 + 2 * p), .int (Ca 3 u 15), zmk, zmk] [] (zZ L, zI Ca, zPd p0 p2 2 (45 + 4 * u) s4) = some (some (.int (nI (k + w p k))), (zZ L, zI Ca, zPd p0 p2 2 (45 + 4 * u) s4))) (v5 v6 : Value) (hS : Cb (50 + p) k 0 = 5) (hop : Ca (10 + p) (k + w p (k + 1)) 0 = 4) (hw0 : w p (k + 1) = w p k) : zDay d1 d2 L p0 p2 r2 r3 s4 u g v5 v6 Ca Cb := by
  have hmk := hm k hkN
  have hmN := zmonw hm (show k + 1 ≤ N by omega) (Nat.le_refl N)
  have hW := W_0 (d1 + 1) d2 L p0 p2 r2 r3 s4 w u Ca Cb hu4 hu hnum h hp hN hkN hg h10 h15 hn hU hU1 hm hA hj v5 v6 (by rw [hop]; decide) hw0
  have z1 := zWu_s h (zSF_0 Ca) (fun _ _ => rfl)
  have z2 := zWu_setA z1 hp h10 hn hN (show k + 1 ≤ N by omega) (nI (k + w p (k + 1) + 1))
  obtain ⟨C2, hC2⟩ : ∃ C2, C2 = zcs (zcs Ca 392 (zup (Ca 392) 0 1 0)) 3 (zup ((zcs Ca 392 (zup (Ca 392) 0 1 0)) 3) u 15 (nI (k + w p (k + 1) + 1))) := ⟨_, rfl⟩
  have q2 : ∀ g, g ≠ 3 → C2 g = (zcs Ca 392 (zup (Ca 392) 0 1 0)) g := fun g hg => by rw [hC2, zcs_n _ _ hg]
  have q15 : C2 3 u 15 = nI (k + 1 + w p (k + 1)) := by rw [hC2, zcs_eq, zup_g, show k + w p (k + 1) + 1 = k + 1 + w p (k + 1) by omega]
  have qa : zFa Ca C2 := by rw [hC2]; exact zFa_s (zFa_sf (zSF_0 Ca)) (by omega)
  have q4 : C2 392 0 4 = Ca 392 0 4 := by rw [q2 392 (by decide)]; exact (zSF_0 Ca).1
  have qU : C2 0 0 (14 + p) = nI (N + w p N) := by rw [q2 0 (by decide), (zSF_0 Ca).2 0 (by decide) (by decide)]; exact hU
  have qop : C2 (10 + p) (k + w p (k + 1)) 0 = Ca (10 + p) (k + w p (k + 1)) 0 := by rw [q2 (10 + p) (by omega), (zSF_0 Ca).2 (10 + p) (by omega) (by omega)]
  rw [← hC2] at z2 hW
  obtain ⟨Ca', Cb', a1, a2, a3, a4, a5, ⟨c1, c2, c6, c0⟩, ⟨b1, b2, b3, b4⟩⟩ := A_dig (d1 + 2) d2 L p0 p2 r2 r3 s4 w u _ _ C2 Cb hu4 hu (q4.trans hnum) z2
  have hm9 := M209_dig d2 L p0 p2 r2 r3 s4 hu4 Cb Cb' hp (show k < 120 by omega) h15 hS a2
  refine ⟨Ca', (zcs Cb' 43 (zup (Cb' 43) u 15 (nI (k + 1)))), Or.inl ⟨hW.trans ?_, M208_0 d2 L p0 p2 r2 r3 s4 hu4 Cb hp hN hg h10 h15 hn v5 v6 hkN _ hm9⟩, zWu_fin a3 hp (by rw [b1]; exact h10) (by omega) (by rw [b3]; exact q15), zFa_t qa a4, zFb_s a5 (by omega), ?_, ?_, ?_⟩
  · rw [hop]
    exact C95_act (d1 + 7) L p0 p2 s4 u hu4 C2 hp (U := N + w p N) (by omega) hU1 qU _ _ _ (qop.trans hop) (by decide) Ca' a1
  · rw [c1]; exact q4
  · rw [zcs_n _ _ (by decide)]; exact c6
  · rw [zcs_n _ _ (by decide)]; exact c0

theorem D_give (d1 d2 L p0 p2 r2 r3 s4 : Nat) (w : Nat → Nat → Nat) (u : Nat) (Ca Cb : zCt) (hu4 : u < 4) (hu : u < zix (Cb 40 0 6)) (hnum : Ca 392 0 4 = nI u) {p k N g : Nat} (h : zWu w u (nI (k + w p k)) (nI k) Ca Cb) (hp : p < 4) (hN : N ≤ 120) (hkN : k < N) (hg : g < 30) (h10 : Cb 43 u 10 = nI p) (h15 : Cb 43 u 15 = nI k) (hn : Cb 40 0 (14 + p) = nI N) (hU : Ca 0 0 (14 + p) = nI (N + w p N)) (hU1 : N + w p N ≤ 120) (hm : ∀ k, k < N → w p k ≤ w p (k + 1)) (hA : ∀ j, w p k ≤ j → j < w p (k + 1) → zwr (Ca (10 + p) (k + j) 0) (Ca (10 + p) (k + j) 1) (Cb (54 + p) j 0) (Cb (54 + p) j 1)) (hj : zR (d1 + 7) 51 0 [.ref (85 + 2 * p), .int (Ca 3 u 15), zmk, zmk] [] (zZ L, zI Ca, zPd p0 p2 2 (45 + 4 * u) s4) = some (some (.int (nI (k + w p k))), (zZ L, zI Ca, zPd p0 p2 2 (45 + 4 * u) s4))) (v5 v6 : Value) (hS : Cb (50 + p) k 0 = 7) (hop : Ca (10 + p) (k + w p (k + 1)) 0 = 6) (hw0 : w p (k + 1) = w p k) : zDay d1 d2 L p0 p2 r2 r3 s4 u g v5 v6 Ca Cb := by
  have hmk := hm k hkN
  have hmN := zmonw hm (show k + 1 ≤ N by omega) (Nat.le_refl N)
  have hW := W_0 (d1 + 1) d2 L p0 p2 r2 r3 s4 w u Ca Cb hu4 hu hnum h hp hN hkN hg h10 h15 hn hU hU1 hm hA hj v5 v6 (by rw [hop]; decide) hw0
  have z1 := zWu_s h (zSF_0 Ca) (fun _ _ => rfl)
  have z2 := zWu_setA z1 hp h10 hn hN (show k + 1 ≤ N by omega) (nI (k + w p (k + 1) + 1))
  obtain ⟨C2, hC2⟩ : ∃ C2, C2 = zcs (zcs Ca 392 (zup (Ca 392) 0 1 0)) 3 (zup ((zcs Ca 392 (zup (Ca 392) 0 1 0)) 3) u 15 (nI (k + w p (k + 1) + 1))) := ⟨_, rfl⟩
  have q2 : ∀ g, g ≠ 3 → C2 g = (zcs Ca 392 (zup (Ca 392) 0 1 0)) g := fun g hg => by rw [hC2, zcs_n _ _ hg]
  have q15 : C2 3 u 15 = nI (k + 1 + w p (k + 1)) := by rw [hC2, zcs_eq, zup_g, show k + w p (k + 1) + 1 = k + 1 + w p (k + 1) by omega]
  have qa : zFa Ca C2 := by rw [hC2]; exact zFa_s (zFa_sf (zSF_0 Ca)) (by omega)
  have q4 : C2 392 0 4 = Ca 392 0 4 := by rw [q2 392 (by decide)]; exact (zSF_0 Ca).1
  have qU : C2 0 0 (14 + p) = nI (N + w p N) := by rw [q2 0 (by decide), (zSF_0 Ca).2 0 (by decide) (by decide)]; exact hU
  have qop : C2 (10 + p) (k + w p (k + 1)) 0 = Ca (10 + p) (k + w p (k + 1)) 0 := by rw [q2 (10 + p) (by omega), (zSF_0 Ca).2 (10 + p) (by omega) (by omega)]
  rw [← hC2] at z2 hW
  obtain ⟨Ca', Cb', a1, a2, a3, a4, a5, ⟨c1, c2, c6, c0⟩, ⟨b1, b2, b3, b4⟩⟩ := A_give (d1 + 2) d2 L p0 p2 r2 r3 s4 w u _ _ C2 Cb hu4 hu (q4.trans hnum) z2
  have hm9 := M209_give d2 L p0 p2 r2 r3 s4 hu4 Cb Cb' hp (show k < 120 by omega) h15 hS a2
  refine ⟨Ca', (zcs Cb' 43 (zup (Cb' 43) u 15 (nI (k + 1)))), Or.inl ⟨hW.trans ?_, M208_0 d2 L p0 p2 r2 r3 s4 hu4 Cb hp hN hg h10 h15 hn v5 v6 hkN _ hm9⟩, zWu_fin a3 hp (by rw [b1]; exact h10) (by omega) (by rw [b3]; exact q15), zFa_t qa a4, zFb_s a5 (by omega), ?_, ?_, ?_⟩
  · rw [hop]
    exact C95_act (d1 + 7) L p0 p2 s4 u hu4 C2 hp (U := N + w p N) (by omega) hU1 qU _ _ _ (qop.trans hop) (by decide) Ca' a1
  · rw [c1]; exact q4
  · rw [zcs_n _ _ (by decide)]; exact c6
  · rw [zcs_n _ _ (by decide)]; exact c0

theorem D_still (d1 d2 L p0 p2 r2 r3 s4 : Nat) (w : Nat → Nat → Nat) (u : Nat) (Ca Cb : zCt) (hu4 : u < 4) (hu : u < zix (Cb 40 0 6)) (hnum : Ca 392 0 4 = nI u) {p k N g : Nat} (h : zWu w u (nI (k + w p k)) (nI k) Ca Cb) (hp : p < 4) (hN : N ≤ 120) (hkN : k < N) (hg : g < 30) (h10 : Cb 43 u 10 = nI p) (h15 : Cb 43 u 15 = nI k) (hn : Cb 40 0 (14 + p) = nI N) (hU : Ca 0 0 (14 + p) = nI (N + w p N)) (hU1 : N + w p N ≤ 120) (hm : ∀ k, k < N → w p k ≤ w p (k + 1)) (hA : ∀ j, w p k ≤ j → j < w p (k + 1) → zwr (Ca (10 + p) (k + j) 0) (Ca (10 + p) (k + j) 1) (Cb (54 + p) j 0) (Cb (54 + p) j 1)) (hj : zR (d1 + 7) 51 0 [.ref (85 + 2 * p), .int (Ca 3 u 15), zmk, zmk] [] (zZ L, zI Ca, zPd p0 p2 2 (45 + 4 * u) s4) = some (some (.int (nI (k + w p k))), (zZ L, zI Ca, zPd p0 p2 2 (45 + 4 * u) s4))) (v5 v6 : Value) (hS : Cb (50 + p) k 0 = 8) (hop : Ca (10 + p) (k + w p (k + 1)) 0 = 7) (hw0 : w p (k + 1) = w p k) : zDay d1 d2 L p0 p2 r2 r3 s4 u g v5 v6 Ca Cb := by
  have hmk := hm k hkN
  have hmN := zmonw hm (show k + 1 ≤ N by omega) (Nat.le_refl N)
  have hW := W_0 (d1 + 1) d2 L p0 p2 r2 r3 s4 w u Ca Cb hu4 hu hnum h hp hN hkN hg h10 h15 hn hU hU1 hm hA hj v5 v6 (by rw [hop]; decide) hw0
  have z1 := zWu_s h (zSF_0 Ca) (fun _ _ => rfl)
  have z2 := zWu_setA z1 hp h10 hn hN (show k + 1 ≤ N by omega) (nI (k + w p (k + 1) + 1))
  obtain ⟨C2, hC2⟩ : ∃ C2, C2 = zcs (zcs Ca 392 (zup (Ca 392) 0 1 0)) 3 (zup ((zcs Ca 392 (zup (Ca 392) 0 1 0)) 3) u 15 (nI (k + w p (k + 1) + 1))) := ⟨_, rfl⟩
  have q2 : ∀ g, g ≠ 3 → C2 g = (zcs Ca 392 (zup (Ca 392) 0 1 0)) g := fun g hg => by rw [hC2, zcs_n _ _ hg]
  have q15 : C2 3 u 15 = nI (k + 1 + w p (k + 1)) := by rw [hC2, zcs_eq, zup_g, show k + w p (k + 1) + 1 = k + 1 + w p (k + 1) by omega]
  have qa : zFa Ca C2 := by rw [hC2]; exact zFa_s (zFa_sf (zSF_0 Ca)) (by omega)
  have q4 : C2 392 0 4 = Ca 392 0 4 := by rw [q2 392 (by decide)]; exact (zSF_0 Ca).1
  have qU : C2 0 0 (14 + p) = nI (N + w p N) := by rw [q2 0 (by decide), (zSF_0 Ca).2 0 (by decide) (by decide)]; exact hU
  have qop : C2 (10 + p) (k + w p (k + 1)) 0 = Ca (10 + p) (k + w p (k + 1)) 0 := by rw [q2 (10 + p) (by omega), (zSF_0 Ca).2 (10 + p) (by omega) (by omega)]
  rw [← hC2] at z2 hW
  obtain ⟨Ca', Cb', a1, a2, a3, a4, a5, ⟨c1, c2, c6, c0⟩, ⟨b1, b2, b3, b4⟩⟩ := A_still (d1 + 2) d2 L p0 p2 r2 r3 s4 w u _ _ C2 Cb hu4 hu (q4.trans hnum) z2
  have hm9 := M209_still d2 L p0 p2 r2 r3 s4 hu4 Cb Cb' hp (show k < 120 by omega) h15 hS a2
  refine ⟨Ca', (zcs Cb' 43 (zup (Cb' 43) u 15 (nI (k + 1)))), Or.inl ⟨hW.trans ?_, M208_0 d2 L p0 p2 r2 r3 s4 hu4 Cb hp hN hg h10 h15 hn v5 v6 hkN _ hm9⟩, zWu_fin a3 hp (by rw [b1]; exact h10) (by omega) (by rw [b3]; exact q15), zFa_t qa a4, zFb_s a5 (by omega), ?_, ?_, ?_⟩
  · rw [hop]
    exact C95_act (d1 + 7) L p0 p2 s4 u hu4 C2 hp (U := N + w p N) (by omega) hU1 qU _ _ _ (qop.trans hop) (by decide) Ca' a1
  · rw [c1]; exact q4
  · rw [zcs_n _ _ (by decide)]; exact c6
  · rw [zcs_n _ _ (by decide)]; exact c0

theorem D_shed (d1 d2 L p0 p2 r2 r3 s4 : Nat) (w : Nat → Nat → Nat) (u : Nat) (Ca Cb : zCt) (hu4 : u < 4) (hu : u < zix (Cb 40 0 6)) (hnum : Ca 392 0 4 = nI u) {p k N g : Nat} (h : zWu w u (nI (k + w p k)) (nI k) Ca Cb) (hp : p < 4) (hN : N ≤ 120) (hkN : k < N) (hg : g < 30) (h10 : Cb 43 u 10 = nI p) (h15 : Cb 43 u 15 = nI k) (hn : Cb 40 0 (14 + p) = nI N) (hU : Ca 0 0 (14 + p) = nI (N + w p N)) (hU1 : N + w p N ≤ 120) (hm : ∀ k, k < N → w p k ≤ w p (k + 1)) (hA : ∀ j, w p k ≤ j → j < w p (k + 1) → zwr (Ca (10 + p) (k + j) 0) (Ca (10 + p) (k + j) 1) (Cb (54 + p) j 0) (Cb (54 + p) j 1)) (hj : zR (d1 + 7) 51 0 [.ref (85 + 2 * p), .int (Ca 3 u 15), zmk, zmk] [] (zZ L, zI Ca, zPd p0 p2 2 (45 + 4 * u) s4) = some (some (.int (nI (k + w p k))), (zZ L, zI Ca, zPd p0 p2 2 (45 + 4 * u) s4))) (v5 v6 : Value) (hS : Cb (50 + p) k 0 = 9) (hop : Ca (10 + p) (k + w p (k + 1)) 0 = 8) (hw0 : w p (k + 1) = w p k) : zDay d1 d2 L p0 p2 r2 r3 s4 u g v5 v6 Ca Cb := by
  have hmk := hm k hkN
  have hmN := zmonw hm (show k + 1 ≤ N by omega) (Nat.le_refl N)
  have hW := W_0 (d1 + 1) d2 L p0 p2 r2 r3 s4 w u Ca Cb hu4 hu hnum h hp hN hkN hg h10 h15 hn hU hU1 hm hA hj v5 v6 (by rw [hop]; decide) hw0
  have z1 := zWu_s h (zSF_0 Ca) (fun _ _ => rfl)
  have z2 := zWu_setA z1 hp h10 hn hN (show k + 1 ≤ N by omega) (nI (k + w p (k + 1) + 1))
  obtain ⟨C2, hC2⟩ : ∃ C2, C2 = zcs (zcs Ca 392 (zup (Ca 392) 0 1 0)) 3 (zup ((zcs Ca 392 (zup (Ca 392) 0 1 0)) 3) u 15 (nI (k + w p (k + 1) + 1))) := ⟨_, rfl⟩
  have q2 : ∀ g, g ≠ 3 → C2 g = (zcs Ca 392 (zup (Ca 392) 0 1 0)) g := fun g hg => by rw [hC2, zcs_n _ _ hg]
  have q15 : C2 3 u 15 = nI (k + 1 + w p (k + 1)) := by rw [hC2, zcs_eq, zup_g, show k + w p (k + 1) + 1 = k + 1 + w p (k + 1) by omega]
  have qa : zFa Ca C2 := by rw [hC2]; exact zFa_s (zFa_sf (zSF_0 Ca)) (by omega)
  have q4 : C2 392 0 4 = Ca 392 0 4 := by rw [q2 392 (by decide)]; exact (zSF_0 Ca).1
  have qU : C2 0 0 (14 + p) = nI (N + w p N) := by rw [q2 0 (by decide), (zSF_0 Ca).2 0 (by decide) (by decide)]; exact hU
  have qop : C2 (10 + p) (k + w p (k + 1)) 0 = Ca (10 + p) (k + w p (k + 1)) 0 := by rw [q2 (10 + p) (by omega), (zSF_0 Ca).2 (10 + p) (by omega) (by omega)]
  rw [← hC2] at z2 hW
  obtain ⟨Ca', Cb', a1, a2, a3, a4, a5, ⟨c1, c2, c6, c0⟩, ⟨b1, b2, b3, b4⟩⟩ := A_shed (d1 + 2) d2 L p0 p2 r2 r3 s4 w u _ _ C2 Cb hu4 hu (q4.trans hnum) z2
  have hm9 := M209_shed d2 L p0 p2 r2 r3 s4 hu4 Cb Cb' hp (show k < 120 by omega) h15 hS a2
  refine ⟨Ca', (zcs Cb' 43 (zup (Cb' 43) u 15 (nI (k + 1)))), Or.inl ⟨hW.trans ?_, M208_0 d2 L p0 p2 r2 r3 s4 hu4 Cb hp hN hg h10 h15 hn v5 v6 hkN _ hm9⟩, zWu_fin a3 hp (by rw [b1]; exact h10) (by omega) (by rw [b3]; exact q15), zFa_t qa a4, zFb_s a5 (by omega), ?_, ?_, ?_⟩
  · rw [hop]
    exact C95_act (d1 + 7) L p0 p2 s4 u hu4 C2 hp (U := N + w p N) (by omega) hU1 qU _ _ _ (qop.trans hop) (by decide) Ca' a1
  · rw [c1]; exact q4
  · rw [zcs_n _ _ (by decide)]; exact c6
  · rw [zcs_n _ _ (by decide)]; exact c0

theorem D_claim (d1 d2 L p0 p2 r2 r3 s4 : Nat) (w : Nat → Nat → Nat) (u : Nat) (Ca Cb : zCt) (hu4 : u < 4) (hu : u < zix (Cb 40 0 6)) (hnum : Ca 392 0 4 = nI u) {p k N g : Nat} (h : zWu w u (nI (k + w p k)) (nI k) Ca Cb) (hp : p < 4) (hN : N ≤ 120) (hkN : k < N) (hg : g < 30) (h10 : Cb 43 u 10 = nI p) (h15 : Cb 43 u 15 = nI k) (hn : Cb 40 0 (14 + p) = nI N) (hU : Ca 0 0 (14 + p) = nI (N + w p N)) (hU1 : N + w p N ≤ 120) (hm : ∀ k, k < N → w p k ≤ w p (k + 1)) (hA : ∀ j, w p k ≤ j → j < w p (k + 1) → zwr (Ca (10 + p) (k + j) 0) (Ca (10 + p) (k + j) 1) (Cb (54 + p) j 0) (Cb (54 + p) j 1)) (hj : zR (d1 + 7) 51 0 [.ref (85 + 2 * p), .int (Ca 3 u 15), zmk, zmk] [] (zZ L, zI Ca, zPd p0 p2 2 (45 + 4 * u) s4) = some (some (.int (nI (k + w p k))), (zZ L, zI Ca, zPd p0 p2 2 (45 + 4 * u) s4))) (v5 v6 : Value) (hS : Cb (50 + p) k 0 = 10) (hop : Ca (10 + p) (k + w p (k + 1)) 0 = 9) (hw0 : w p (k + 1) = w p k) : zDay d1 d2 L p0 p2 r2 r3 s4 u g v5 v6 Ca Cb := by
  have hmk := hm k hkN
  have hmN := zmonw hm (show k + 1 ≤ N by omega) (Nat.le_refl N)
  have hW := W_0 (d1 + 1) d2 L p0 p2 r2 r3 s4 w u Ca Cb hu4 hu hnum h hp hN hkN hg h10 h15 hn hU hU1 hm hA hj v5 v6 (by rw [hop]; decide) hw0
  have z1 := zWu_s h (zSF_0 Ca) (fun _ _ => rfl)
  have z2 := zWu_setA z1 hp h10 hn hN (show k + 1 ≤ N by omega) (nI (k + w p (k + 1) + 1))
  obtain ⟨C2, hC2⟩ : ∃ C2, C2 = zcs (zcs Ca 392 (zup (Ca 392) 0 1 0)) 3 (zup ((zcs Ca 392 (zup (Ca 392) 0 1 0)) 3) u 15 (nI (k + w p (k + 1) + 1))) := ⟨_, rfl⟩
  have q2 : ∀ g, g ≠ 3 → C2 g = (zcs Ca 392 (zup (Ca 392) 0 1 0)) g := fun g hg => by rw [hC2, zcs_n _ _ hg]
  have q15 : C2 3 u 15 = nI (k + 1 + w p (k + 1)) := by rw [hC2, zcs_eq, zup_g, show k + w p (k + 1) + 1 = k + 1 + w p (k + 1) by omega]
  have qa : zFa Ca C2 := by rw [hC2]; exact zFa_s (zFa_sf (zSF_0 Ca)) (by omega)
  have q4 : C2 392 0 4 = Ca 392 0 4 := by rw [q2 392 (by decide)]; exact (zSF_0 Ca).1
  have qU : C2 0 0 (14 + p) = nI (N + w p N) := by rw [q2 0 (by decide), (zSF_0 Ca).2 0 (by decide) (by decide)]; exact hU
  have qop : C2 (10 + p) (k + w p (k + 1)) 0 = Ca (10 + p) (k + w p (k + 1)) 0 := by rw [q2 (10 + p) (by omega), (zSF_0 Ca).2 (10 + p) (by omega) (by omega)]
  rw [← hC2] at z2 hW
  obtain ⟨Ca', Cb', a1, a2, a3, a4, a5, ⟨c1, c2, c6, c0⟩, ⟨b1, b2, b3, b4⟩⟩ := A_claim (d1 + 1) d2 L p0 p2 r2 r3 s4 w u _ _ C2 Cb hu4 hu (q4.trans hnum) z2
  have hm9 := M209_claim d2 L p0 p2 r2 r3 s4 hu4 Cb Cb' hp (show k < 120 by omega) h15 hS a2
  refine ⟨Ca', (zcs Cb' 43 (zup (Cb' 43) u 15 (nI (k + 1)))), Or.inl ⟨hW.trans ?_, M208_0 d2 L p0 p2 r2 r3 s4 hu4 Cb hp hN hg h10 h15 hn v5 v6 hkN _ hm9⟩, zWu_fin a3 hp (by rw [b1]; exact h10) (by omega) (by rw [b3]; exact q15), zFa_t qa a4, zFb_s a5 (by omega), ?_, ?_, ?_⟩
  · rw [hop]
    exact C95_act (d1 + 7) L p0 p2 s4 u hu4 C2 hp (U := N + w p N) (by omega) hU1 qU _ _ _ (qop.trans hop) (by decide) Ca' a1
  · rw [c1]; exact q4
  · rw [zcs_n _ _ (by decide)]; exact c6
  · rw [zcs_n _ _ (by decide)]; exact c0

theorem D_make (d1 d2 L p0 p2 r2 r3 s4 : Nat) (w : Nat → Nat → Nat) (u : Nat) (Ca Cb : zCt) (hu4 : u < 4) (hu : u < zix (Cb 40 0 6)) (hnum : Ca 392 0 4 = nI u) {p k N g : Nat} (h : zWu w u (nI (k + w p k)) (nI k) Ca Cb) (hp : p < 4) (hN : N ≤ 120) (hkN : k < N) (hg : g < 30) (h10 : Cb 43 u 10 = nI p) (h15 : Cb 43 u 15 = nI k) (hn : Cb 40 0 (14 + p) = nI N) (hU : Ca 0 0 (14 + p) = nI (N + w p N)) (hU1 : N + w p N ≤ 120) (hm : ∀ k, k < N → w p k ≤ w p (k + 1)) (hA : ∀ j, w p k ≤ j → j < w p (k + 1) → zwr (Ca (10 + p) (k + j) 0) (Ca (10 + p) (k + j) 1) (Cb (54 + p) j 0) (Cb (54 + p) j 1)) (hj : zR (d1 + 7) 51 0 [.ref (85 + 2 * p), .int (Ca 3 u 15), zmk, zmk] [] (zZ L, zI Ca, zPd p0 p2 2 (45 + 4 * u) s4) = some (some (.int (nI (k + w p k))), (zZ L, zI Ca, zPd p0 p2 2 (45 + 4 * u) s4))) (v5 v6 : Value) (hS : Cb (50 + p) k 0 = 6) (hop : Ca (10 + p) (k + w p (k + 1)) 0 = 5) (hw0 : w p (k + 1) = w p k) : zDay d1 d2 L p0 p2 r2 r3 s4 u g v5 v6 Ca Cb := by
  have hmk := hm k hkN
  have hmN := zmonw hm (show k + 1 ≤ N by omega) (Nat.le_refl N)
  have hW := W_0 (d1 + 1) d2 L p0 p2 r2 r3 s4 w u Ca Cb hu4 hu hnum h hp hN hkN hg h10 h15 hn hU hU1 hm hA hj v5 v6 (by rw [hop]; decide) hw0
  have z1 := zWu_s h (zSF_0 Ca) (fun _ _ => rfl)
  have z2 := zWu_setA z1 hp h10 hn hN (show k + 1 ≤ N by omega) (nI (k + w p (k + 1) + 1))
  obtain ⟨C2, hC2⟩ : ∃ C2, C2 = zcs (zcs Ca 392 (zup (Ca 392) 0 1 0)) 3 (zup ((zcs Ca 392 (zup (Ca 392) 0 1 0)) 3) u 15 (nI (k + w p (k + 1) + 1))) := ⟨_, rfl⟩
  have q2 : ∀ g, g ≠ 3 → C2 g = (zcs Ca 392 (zup (Ca 392) 0 1 0)) g := fun g hg => by rw [hC2, zcs_n _ _ hg]
  have q15 : C2 3 u 15 = nI (k + 1 + w p (k + 1)) := by rw [hC2, zcs_eq, zup_g, show k + w p (k + 1) + 1 = k + 1 + w p (k + 1) by omega]
  have qa : zFa Ca C2 := by rw [hC2]; exact zFa_s (zFa_sf (zSF_0 Ca)) (by omega)
  have q4 : C2 392 0 4 = Ca 392 0 4 := by rw [q2 392 (by decide)]; exact (zSF_0 Ca).1
  have qU : C2 0 0 (14 + p) = nI (N + w p N) := by rw [q2 0 (by decide), (zSF_0 Ca).2 0 (by decide) (by decide)]; exact hU
  have qop : C2 (10 + p) (k + w p (k + 1)) 0 = Ca (10 + p) (k + w p (k + 1)) 0 := by rw [q2 (10 + p) (by omega), (zSF_0 Ca).2 (10 + p) (by omega) (by omega)]
  rw [← hC2] at z2 hW
  obtain ⟨Ca', Cb', a1, a2, a3, a4, a5, ⟨c1, c2, c6, c0⟩, ⟨b1, b2, b3, b4⟩⟩ := A_make (d1 + 6) (d2 + 4) L p0 p2 r2 r3 s4 w u _ _ C2 Cb hu4 z2
  have hm9 := M209_make d2 L p0 p2 r2 r3 s4 hu4 Cb Cb' hp (show k < 120 by omega) h15 hS a2
  refine ⟨Ca', (zcs Cb' 43 (zup (Cb' 43) u 15 (nI (k + 1)))), Or.inl ⟨hW.trans ?_, M208_0 d2 L p0 p2 r2 r3 s4 hu4 Cb hp hN hg h10 h15 hn v5 v6 hkN _ hm9⟩, zWu_fin a3 hp (by rw [b1]; exact h10) (by omega) (by rw [b3]; exact q15), zFa_t qa a4, zFb_s a5 (by omega), ?_, ?_, ?_⟩
  · rw [hop]
    exact C95_act (d1 + 7) L p0 p2 s4 u hu4 C2 hp (U := N + w p N) (by omega) hU1 qU _ _ _ (qop.trans hop) (by decide) Ca' (C59_make (d1 + 6) L p0 p2 s4 u C2 Ca' a1)
  · rw [c1]; exact q4
  · rw [zcs_n _ _ (by decide)]; exact c6
  · rw [zcs_n _ _ (by decide)]; exact c0

theorem D_wait (d1 d2 L p0 p2 r2 r3 s4 : Nat) (w : Nat → Nat → Nat) (u : Nat) (Ca Cb : zCt) (hu4 : u < 4) (hu : u < zix (Cb 40 0 6)) (hnum : Ca 392 0 4 = nI u) {p k N g : Nat} (h : zWu w u (nI (k + w p k)) (nI k) Ca Cb) (hp : p < 4) (hN : N ≤ 120) (hkN : k < N) (hg : g < 30) (h10 : Cb 43 u 10 = nI p) (h15 : Cb 43 u 15 = nI k) (hn : Cb 40 0 (14 + p) = nI N) (hU : Ca 0 0 (14 + p) = nI (N + w p N)) (hU1 : N + w p N ≤ 120) (hm : ∀ k, k < N → w p k ≤ w p (k + 1)) (hA : ∀ j, w p k ≤ j → j < w p (k + 1) → zwr (Ca (10 + p) (k + j) 0) (Ca (10 + p) (k + j) 1) (Cb (54 + p) j 0) (Cb (54 + p) j 1)) (hj : zR (d1 + 7) 51 0 [.ref (85 + 2 * p), .int (Ca 3 u 15), zmk, zmk] [] (zZ L, zI Ca, zPd p0 p2 2 (45 + 4 * u) s4) = some (some (.int (nI (k + w p k))), (zZ L, zI Ca, zPd p0 p2 2 (45 + 4 * u) s4))) (v5 v6 : Value) (hS : Cb (50 + p) k 0 = 11) (hop : Ca (10 + p) (k + w p (k + 1)) 0 = 10) (hw0 : w p (k + 1) = w p k) : zDay d1 d2 L p0 p2 r2 r3 s4 u g v5 v6 Ca Cb := by
  have hmk := hm k hkN
  have hmN := zmonw hm (show k + 1 ≤ N by omega) (Nat.le_refl N)
  have hW := W_0 (d1 + 1) d2 L p0 p2 r2 r3 s4 w u Ca Cb hu4 hu hnum h hp hN hkN hg h10 h15 hn hU hU1 hm hA hj v5 v6 (by rw [hop]; decide) hw0
  have z1 := zWu_s h (zSF_0 Ca) (fun _ _ => rfl)
  have z2 := zWu_setA z1 hp h10 hn hN (show k + 1 ≤ N by omega) (nI (k + w p (k + 1) + 1))
  obtain ⟨C2, hC2⟩ : ∃ C2, C2 = zcs (zcs Ca 392 (zup (Ca 392) 0 1 0)) 3 (zup ((zcs Ca 392 (zup (Ca 392) 0 1 0)) 3) u 15 (nI (k + w p (k + 1) + 1))) := ⟨_, rfl⟩
  have q2 : ∀ g, g ≠ 3 → C2 g = (zcs Ca 392 (zup (Ca 392) 0 1 0)) g := fun g hg => by rw [hC2, zcs_n _ _ hg]
  have q15 : C2 3 u 15 = nI (k + 1 + w p (k + 1)) := by rw [hC2, zcs_eq, zup_g, show k + w p (k + 1) + 1 = k + 1 + w p (k + 1) by omega]
  have qa : zFa Ca C2 := by rw [hC2]; exact zFa_s (zFa_sf (zSF_0 Ca)) (by omega)
  have q4 : C2 392 0 4 = Ca 392 0 4 := by rw [q2 392 (by decide)]; exact (zSF_0 Ca).1
  have qU : C2 0 0 (14 + p) = nI (N + w p N) := by rw [q2 0 (by decide), (zSF_0 Ca).2 0 (by decide) (by decide)]; exact hU
  have qop : C2 (10 + p) (k + w p (k + 1)) 0 = Ca (10 + p) (k + w p (k + 1)) 0 := by rw [q2 (10 + p) (by omega), (zSF_0 Ca).2 (10 + p) (by omega) (by omega)]
  rw [← hC2] at z2 hW
  have hm9 := M209_wait d2 L p0 p2 r2 r3 s4 hu4 Cb hp (show k < 120 by omega) h15 hS
  have c6 : Cb 40 0 6 = Cb 40 0 6 := rfl
  have c0 : Cb 40 0 0 = Cb 40 0 0 := rfl
  refine ⟨C2, (zcs Cb 43 (zup (Cb 43) u 15 (nI (k + 1)))), Or.inl ⟨hW.trans ?_, M208_0 d2 L p0 p2 r2 r3 s4 hu4 Cb hp hN hg h10 h15 hn v5 v6 hkN _ hm9⟩, zWu_fin z2 hp h10 (by omega) q15, qa, zFb_s (zFb_r _) (by omega), ?_, ?_, ?_⟩
  · rw [hop]
    exact C95_act (d1 + 7) L p0 p2 s4 u hu4 C2 hp (U := N + w p N) (by omega) hU1 qU _ _ _ (qop.trans hop) (by decide) C2 (C59_wait (d1 + 7) L p0 p2 s4 u C2)
  · exact q4
  · rw [zcs_n _ _ (by decide)]
  · rw [zcs_n _ _ (by decide)]

theorem D_aim (d1 d2 L p0 p2 r2 r3 s4 : Nat) (w : Nat → Nat → Nat) (u : Nat) (Ca Cb : zCt) (hu4 : u < 4) (hu : u < zix (Cb 40 0 6)) (hnum : Ca 392 0 4 = nI u) {p k N g : Nat} (h : zWu w u (nI (k + w p k)) (nI k) Ca Cb) (hp : p < 4) (hN : N ≤ 120) (hkN : k < N) (hg : g < 30) (h10 : Cb 43 u 10 = nI p) (h15 : Cb 43 u 15 = nI k) (hn : Cb 40 0 (14 + p) = nI N) (hU : Ca 0 0 (14 + p) = nI (N + w p N)) (hU1 : N + w p N ≤ 120) (hm : ∀ k, k < N → w p k ≤ w p (k + 1)) (hA : ∀ j, w p k ≤ j → j < w p (k + 1) → zwr (Ca (10 + p) (k + j) 0) (Ca (10 + p) (k + j) 1) (Cb (54 + p) j 0) (Cb (54 + p) j 1)) (hj : zR (d1 + 7) 51 0 [.ref (85 + 2 * p), .int (Ca 3 u 15), zmk, zmk] [] (zZ L, zI Ca, zPd p0 p2 2 (45 + 4 * u) s4) = some (some (.int (nI (k + w p k))), (zZ L, zI Ca, zPd p0 p2 2 (45 + 4 * u) s4))) (v5 v6 : Value) (hS : Cb (50 + p) k 0 = 1) (hop : Ca (10 + p) (k + w p (k + 1)) 0 = 0) (harg : Ca (10 + p) (k + w p (k + 1)) 1 = Cb (50 + p) k 1) (hw0 : w p (k + 1) = w p k) : zDay d1 d2 L p0 p2 r2 r3 s4 u g v5 v6 Ca Cb := by
  have hmk := hm k hkN
  have hmN := zmonw hm (show k + 1 ≤ N by omega) (Nat.le_refl N)
  have hW := W_0 (d1 + 1) d2 L p0 p2 r2 r3 s4 w u Ca Cb hu4 hu hnum h hp hN hkN hg h10 h15 hn hU hU1 hm hA hj v5 v6 (by rw [hop]; decide) hw0
  have z1 := zWu_s h (zSF_0 Ca) (fun _ _ => rfl)
  have z2 := zWu_setA z1 hp h10 hn hN (show k + 1 ≤ N by omega) (nI (k + w p (k + 1) + 1))
  obtain ⟨C2, hC2⟩ : ∃ C2, C2 = zcs (zcs Ca 392 (zup (Ca 392) 0 1 0)) 3 (zup ((zcs Ca 392 (zup (Ca 392) 0 1 0)) 3) u 15 (nI (k + w p (k + 1) + 1))) := ⟨_, rfl⟩
  have q2 : ∀ g, g ≠ 3 → C2 g = (zcs Ca 392 (zup (Ca 392) 0 1 0)) g := fun g hg => by rw [hC2, zcs_n _ _ hg]
  have q15 : C2 3 u 15 = nI (k + 1 + w p (k + 1)) := by rw [hC2, zcs_eq, zup_g, show k + w p (k + 1) + 1 = k + 1 + w p (k + 1) by omega]
  have qa : zFa Ca C2 := by rw [hC2]; exact zFa_s (zFa_sf (zSF_0 Ca)) (by omega)
  have q4 : C2 392 0 4 = Ca 392 0 4 := by rw [q2 392 (by decide)]; exact (zSF_0 Ca).1
  have qU : C2 0 0 (14 + p) = nI (N + w p N) := by rw [q2 0 (by decide), (zSF_0 Ca).2 0 (by decide) (by decide)]; exact hU
  have qop : C2 (10 + p) (k + w p (k + 1)) 0 = Ca (10 + p) (k + w p (k + 1)) 0 := by rw [q2 (10 + p) (by omega), (zSF_0 Ca).2 (10 + p) (by omega) (by omega)]
  rw [← hC2] at z2 hW
  have hm9 := M209_aim d2 L p0 p2 r2 r3 s4 hu4 Cb hp (show k < 120 by omega) h15 hS
  have z3 := zWu_t z2 (zup (C2 3) u 11 (Cb (50 + p) k 1)) (zup (Cb 43) u 11 (Cb (50 + p) k 1)) (fun i hi => zup_row hi) (fun i hi => zup_row hi) (sa' := nI (k + 1 + w p (k + 1))) (sb' := nI (k + 1)) (by
    have hU := z2.2.2.2.1.2
    unfold zRU at hU ⊢
    simp (disch := omega) only [zup_n]
    obtain ⟨k1, k2, k3, k4, k5, k6, k7, k8, k9, k10, k11, k12⟩ := hU
    refine ⟨fun f hf h1 h2 => ?_, k2, k3, k4, fun f h1 h2 => ?_, k6, k7, k8, k9, k10, k11, ?_⟩
    · by_cases ef : f = 11
      · subst ef; simp only [zup_g]
      · simp (disch := omega) only [zup_n]; exact k1 f hf h1 h2
    · simp (disch := omega) only [zup_n]; exact k5 f h1 h2
    · rcases k12 with q | ⟨y1, y2, y3⟩
      · exact Or.inl q
      · exact Or.inr ⟨y1, fun j hj => by first | exact y2 j hj | (simp (disch := omega) only [zup_n]; exact y2 j hj), y3⟩)
  have z4 := zWu_fin z3 hp (by rw [zcs_eq, zup_n _ _ (by omega)]; exact h10) (by omega) (by rw [zcs_eq, zup_n _ _ (by omega)]; exact q15)
  rw [zcs_eq, zcs_cs] at z4
  refine ⟨zcs C2 3 (zup (C2 3) u 11 (Cb (50 + p) k 1)), zcs Cb 43 (zup (zup (Cb 43) u 11 (Cb (50 + p) k 1)) u 15 (nI (k + 1))), Or.inr ⟨hW.trans ?_, M208_1 d2 L p0 p2 r2 r3 s4 hu4 Cb hp hN hg h10 h15 hn v5 v6 hkN _ hm9⟩, z4, zFa_s qa (by omega), zFb_s (zFb_r _) (by omega), ?_, ?_, ?_⟩
  · rw [hop, harg]
    exact C95_aim (d1 + 8) L p0 p2 s4 u hu4 C2 _ _ _ _
  · rw [zcs_n _ _ (by decide)]; exact q4
  · rw [zcs_n _ _ (by decide)]
  · rw [zcs_n _ _ (by decide)]
theorem D_dock (d1 d2 L p0 p2 r2 r3 s4 : Nat) (w : Nat → Nat → Nat) (u : Nat) (Ca Cb : zCt) (hu4 : u < 4) (hu : u < zix (Cb 40 0 6)) (hnum : Ca 392 0 4 = nI u) {p k N g : Nat} (h : zWu w u (nI (k + w p k)) (nI k) Ca Cb) (hp : p < 4) (hN : N ≤ 120) (hkN : k < N) (hg : g < 30) (h10 : Cb 43 u 10 = nI p) (h15 : Cb 43 u 15 = nI k) (hn : Cb 40 0 (14 + p) = nI N) (hU : Ca 0 0 (14 + p) = nI (N + w p N)) (hU1 : N + w p N ≤ 120) (hm : ∀ k, k < N → w p k ≤ w p (k + 1)) (hA : ∀ j, w p k ≤ j → j < w p (k + 1) → zwr (Ca (10 + p) (k + j) 0) (Ca (10 + p) (k + j) 1) (Cb (54 + p) j 0) (Cb (54 + p) j 1)) (hj : zR (d1 + 7) 51 0 [.ref (85 + 2 * p), .int (Ca 3 u 15), zmk, zmk] [] (zZ L, zI Ca, zPd p0 p2 2 (45 + 4 * u) s4) = some (some (.int (nI (k + w p k))), (zZ L, zI Ca, zPd p0 p2 2 (45 + 4 * u) s4))) (v5 v6 : Value) (hS : Cb (50 + p) k 0 = 3) (hop : Ca (10 + p) (k + w p (k + 1)) 0 = 2) (hw0 : w p (k + 1) = w p k) : zDay d1 d2 L p0 p2 r2 r3 s4 u g v5 v6 Ca Cb := by
  have hmk := hm k hkN
  have hmN := zmonw hm (show k + 1 ≤ N by omega) (Nat.le_refl N)
  have hW := W_0 (d1 + 1) d2 L p0 p2 r2 r3 s4 w u Ca Cb hu4 hu hnum h hp hN hkN hg h10 h15 hn hU hU1 hm hA hj v5 v6 (by rw [hop]; decide) hw0
  have z1 := zWu_s h (zSF_0 Ca) (fun _ _ => rfl)
  have z2 := zWu_setA z1 hp h10 hn hN (show k + 1 ≤ N by omega) (nI (k + w p (k + 1) + 1))
  obtain ⟨C2, hC2⟩ : ∃ C2, C2 = zcs (zcs Ca 392 (zup (Ca 392) 0 1 0)) 3 (zup ((zcs Ca 392 (zup (Ca 392) 0 1 0)) 3) u 15 (nI (k + w p (k + 1) + 1))) := ⟨_, rfl⟩
  have q2 : ∀ g, g ≠ 3 → C2 g = (zcs Ca 392 (zup (Ca 392) 0 1 0)) g := fun g hg => by rw [hC2, zcs_n _ _ hg]
  have q15 : C2 3 u 15 = nI (k + 1 + w p (k + 1)) := by rw [hC2, zcs_eq, zup_g, show k + w p (k + 1) + 1 = k + 1 + w p (k + 1) by omega]
  have qa : zFa Ca C2 := by rw [hC2]; exact zFa_s (zFa_sf (zSF_0 Ca)) (by omega)
  have q4 : C2 392 0 4 = Ca 392 0 4 := by rw [q2 392 (by decide)]; exact (zSF_0 Ca).1
  have qU : C2 0 0 (14 + p) = nI (N + w p N) := by rw [q2 0 (by decide), (zSF_0 Ca).2 0 (by decide) (by decide)]; exact hU
  have qop : C2 (10 + p) (k + w p (k + 1)) 0 = Ca (10 + p) (k + w p (k + 1)) 0 := by rw [q2 (10 + p) (by omega), (zSF_0 Ca).2 (10 + p) (by omega) (by omega)]
  rw [← hC2] at z2 hW
  obtain ⟨v, Ca', Cb', a1, a2, av, a3, a4, a5, ⟨c1, c2, c6, c0⟩, ⟨b1, b2, b3, b4⟩⟩ := A_dock (d1 + 2) d2 L p0 p2 r2 r3 s4 w u _ _ C2 Cb hu4 hu z2
  by_cases hv : v = 0
  · have hm9 := M209_dock0 d2 L p0 p2 r2 r3 s4 hu4 Cb Cb' hp (show k < 120 by omega) h15 hS v hv a2
    have hn' : ∃ N', Cb' 40 0 (14 + p) = nI N' ∧ N' ≤ 120 ∧ k ≤ N' := by
      obtain ⟨N', e1, hN', _⟩ := a3.2.2.2.2.2.2.2.2.2.2 p hp
      refine ⟨N', e1, hN', ?_⟩
      rcases a3.2.2.2.1.2.2.2.2.2.2.2.2.2.2.2.1 with q | ⟨p', k', h1, h2, h3, h4, h5⟩
      · rw [b1, h10] at q
        exact absurd q (by rw [nI_m (by omega)]; exact id)
      · rw [b1, h10] at h2
        obtain rfl : p = p' := (nI_eq (by omega) (by omega)).mp h2
        have hz : k' ≤ N' := by
          have : zix (Cb' 40 0 (14 + p)) = N' := by rw [e1, zix_n (by omega)]
          rw [← this]; exact h4
        have := (nI_eq (a := k + 1) (b := k') (by omega) (by omega)).mp h3
        omega
    obtain ⟨N', e1, hN', hkN'⟩ := hn'
    have z3 := zWu_setA a3 hp (by rw [b1]; exact h10) e1 hN' hkN' (nI (k + w p k))
    refine ⟨zcs Ca' 3 (zup (Ca' 3) u 15 (nI (k + w p k))), (zcs Cb' 43 (zup (Cb' 43) u 15 (nI k))), Or.inl ⟨hW.trans ?_, M208_0 d2 L p0 p2 r2 r3 s4 hu4 Cb hp hN hg h10 h15 hn v5 v6 hkN _ hm9⟩, zWu_fin z3 hp (by rw [b1]; exact h10) (by omega) (by rw [zcs_eq, zup_g]), zFa_s (zFa_t qa a4) (by omega), zFb_s a5 (by omega), ?_, ?_, ?_⟩
    · rw [hop]
      exact C95_dock0 (d1 + 7) L p0 p2 s4 u hu4 C2 _ _ _ _ Ca' v hv a1
    · rw [zcs_n _ _ (by decide), c1]; exact q4
    · rw [zcs_n _ _ (by decide)]; exact c6
    · rw [zcs_n _ _ (by decide)]; exact c0
  · have hm9 := M209_dock1 d2 L p0 p2 r2 r3 s4 hu4 Cb Cb' hp (show k < 120 by omega) h15 hS v hv a2
    refine ⟨Ca', (zcs Cb' 43 (zup (Cb' 43) u 15 (nI (k + 1)))), Or.inl ⟨hW.trans ?_, M208_0 d2 L p0 p2 r2 r3 s4 hu4 Cb hp hN hg h10 h15 hn v5 v6 hkN _ hm9⟩, zWu_fin a3 hp (by rw [b1]; exact h10) (by omega) (by rw [b3]; exact q15), zFa_t qa a4, zFb_s a5 (by omega), ?_, ?_, ?_⟩
    · rw [hop]
      exact C95_dock1 (d1 + 7) L p0 p2 s4 u hu4 C2 _ _ _ _ Ca' v hv a1
    · rw [c1]; exact q4
    · rw [zcs_n _ _ (by decide)]; exact c6
    · rw [zcs_n _ _ (by decide)]; exact c0

