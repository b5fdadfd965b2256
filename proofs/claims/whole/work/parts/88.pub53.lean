/-! THE RUN: one S of a tug (4), printed by wip/gen/pub53.py -/
theorem D_ask (d1 d2 L p0 p2 r2 r3 s4 : Nat) (w : Nat → Nat → Nat) (u : Nat) (Ca Cb : zCt) (hu4 : u < 4) (hu : u < zix (Cb 40 0 6)) (hnum : Ca 392 0 4 = nI u) {p k N g : Nat} (h : zWu w u (nI (k + w p k)) (nI k) Ca Cb) (hp : p < 4) (hN : N ≤ 120) (hkN : k < N) (hg : g < 30) (h10 : Cb 43 u 10 = nI p) (h15 : Cb 43 u 15 = nI k) (hn : Cb 40 0 (14 + p) = nI N) (hU : Ca 0 0 (14 + p) = nI (N + w p N)) (hU1 : N + w p N ≤ 120) (hm : ∀ k, k < N → w p k ≤ w p (k + 1)) (hA : ∀ j, w p k ≤ j → j < w p (k + 1) → zwr (Ca (10 + p) (k + j) 0) (Ca (10 + p) (k + j) 1) (Cb (54 + p) j 0) (Cb (54 + p) j 1)) (hj : zR (d1 + 7) 51 0 [.ref (85 + 2 * p), .int (Ca 3 u 15), zmk, zmk] [] (zZ L, zI Ca, zPd p0 p2 2 (45 + 4 * u) s4) = some (some (.int (nI (k + w p k))), (zZ L, zI Ca, zPd p0 p2 2 (45 + 4 * u) s4))) (v5 v6 : Value) (hS : Cb (50 + p) k 0 = 13) (hop : Ca (10 + p) (k + w p (k + 1)) 0 = 12 ∨ Ca (10 + p) (k + w p (k + 1)) 0 = 13) (h1 : Cb (50 + p) k 1 = nI (w p k)) (h2 : Cb (50 + p) k 2 = nI (w p (k + 1))) (hd : zdp (Cb (54 + p)) (w p (k + 1) - w p k) (w p k) 0 = some 1) (T : Nat) (hT : T ≤ N) (h3 : Cb (50 + p) k 3 = nI T) (harg : Ca (10 + p) (k + w p (k + 1)) 1 = nI (T + w p T)) : zDay d1 d2 L p0 p2 r2 r3 s4 u g v5 v6 Ca Cb := by
  have hop15 : Ca (10 + p) (k + w p (k + 1)) 0 ≤ 15 := by rcases hop with e | e <;> rw [e] <;> decide
  have hmk := hm k hkN
  have hmN := zmonw hm (show k + 1 ≤ N by omega) (Nat.le_refl N)
  obtain ⟨C1, D, x, hW, hm0, s1, s2, hsf, hD⟩ := W_1 (d1 + 1) d2 L p0 p2 r2 r3 s4 w u Ca Cb hu4 hu hnum h hp hN hkN hg h10 h15 hn hU hU1 hm hA hj v5 v6 hop15 hd
  have z1 := zWu_s h (hsf) (hD)
  have z2 := zWu_setA z1 hp (by rw [hD 43 (by decide)]; exact h10) (by rw [hD 40 (by decide)]; exact hn) hN (show k + 1 ≤ N by omega) (nI (k + w p (k + 1) + 1))
  obtain ⟨C2, hC2⟩ : ∃ C2, C2 = zcs C1 3 (zup (C1 3) u 15 (nI (k + w p (k + 1) + 1))) := ⟨_, rfl⟩
  have q2 : ∀ g, g ≠ 3 → C2 g = C1 g := fun g hg => by rw [hC2, zcs_n _ _ hg]
  have q15 : C2 3 u 15 = nI (k + 1 + w p (k + 1)) := by rw [hC2, zcs_eq, zup_g, show k + w p (k + 1) + 1 = k + 1 + w p (k + 1) by omega]
  have qa : zFa Ca C2 := by rw [hC2]; exact zFa_s (zFa_sf (hsf)) (by omega)
  have q4 : C2 392 0 4 = Ca 392 0 4 := by rw [q2 392 (by decide)]; exact (hsf).1
  have qU : C2 0 0 (14 + p) = nI (N + w p N) := by rw [q2 0 (by decide), (hsf).2 0 (by decide) (by decide)]; exact hU
  have qop : C2 (10 + p) (k + w p (k + 1)) 0 = Ca (10 + p) (k + w p (k + 1)) 0 := by rw [q2 (10 + p) (by omega), (hsf).2 (10 + p) (by omega) (by omega)]
  rw [← hC2] at z2 hW
  have t1 : C2 392 0 1 = nI 1 := by rw [q2 392 (by decide)]; exact s1
  have t2 : C2 393 0 0 = x := by rw [q2 393 (by decide)]; exact s2
  have d10 : D 43 u 10 = nI p := by rw [hD 43 (by decide)]; exact h10
  have dn : D 40 0 (14 + p) = nI N := by rw [hD 40 (by decide)]; exact hn
  have z3 := zWu_s z2 (zSF_pop C2 (nI 0)) (fun g _ => rfl)
  by_cases hx : x = 0
  · have hm9 := M209_ask0 d2 L p0 p2 r2 r3 s4 hu4 Cb D hp (show k < 120 by omega) h15 hS h10 hD _ _ h1 h2 x hm0 hx T h3
    have z4 : zWu w u (nI (T + w p T)) (nI T) (zcs (zcs C2 392 (zup (C2 392) 0 1 (nI 0))) 3 (zup (C2 3) u 15 (nI (T + w p T)))) D := zWu_setA z3 hp d10 dn hN hT (nI (T + w p T))
    refine ⟨_, _, Or.inr ⟨hW.trans ?_, M208_1 d2 L p0 p2 r2 r3 s4 hu4 Cb hp hN hg h10 h15 hn v5 v6 hkN _ hm9⟩, zWu_fin z4 hp d10 (by omega) (by rw [zcs_eq, zup_g]), zFa_s (zFa_s qa (by omega)) (by omega), zFb_s (zFb_pi hD) (by omega), ?_, ?_, ?_⟩
    · rw [harg]
      exact C95_ask0 (d1 + 7) L p0 p2 s4 u hu4 C2 _ _ _ _ _ hop t1 (t2.trans hx)
    · rw [zcs_n _ _ (by decide), zcs_eq, zup_n _ _ (by omega)]; exact q4
    · rw [zcs_n _ _ (by decide), hD 40 (by decide)]
    · rw [zcs_n _ _ (by decide), hD 40 (by decide)]
  · have hm9 := M209_ask1 d2 L p0 p2 r2 r3 s4 hu4 Cb D hp (show k < 120 by omega) h15 hS h10 hD _ _ h1 h2 x hm0 hx
    refine ⟨_, _, Or.inr ⟨hW.trans ?_, M208_1 d2 L p0 p2 r2 r3 s4 hu4 Cb hp hN hg h10 h15 hn v5 v6 hkN _ hm9⟩, zWu_fin z3 hp d10 (by omega) (by rw [zcs_n _ _ (by decide)]; exact q15), zFa_s qa (by omega), zFb_s (zFb_pi hD) (by omega), ?_, ?_, ?_⟩
    · exact C95_ask1 (d1 + 7) L p0 p2 s4 u hu4 C2 _ _ _ _ _ hop t1 (fun e => hx (t2.symm.trans e))
    · rw [zcs_eq, zup_n _ _ (by omega)]; exact q4
    · rw [zcs_n _ _ (by decide), hD 40 (by decide)]
    · rw [zcs_n _ _ (by decide), hD 40 (by decide)]
theorem D_until (d1 d2 L p0 p2 r2 r3 s4 : Nat) (w : Nat → Nat → Nat) (u : Nat) (Ca Cb : zCt) (hu4 : u < 4) (hu : u < zix (Cb 40 0 6)) (hnum : Ca 392 0 4 = nI u) {p k N g : Nat} (h : zWu w u (nI (k + w p k)) (nI k) Ca Cb) (hp : p < 4) (hN : N ≤ 120) (hkN : k < N) (hg : g < 30) (h10 : Cb 43 u 10 = nI p) (h15 : Cb 43 u 15 = nI k) (hn : Cb 40 0 (14 + p) = nI N) (hU : Ca 0 0 (14 + p) = nI (N + w p N)) (hU1 : N + w p N ≤ 120) (hm : ∀ k, k < N → w p k ≤ w p (k + 1)) (hA : ∀ j, w p k ≤ j → j < w p (k + 1) → zwr (Ca (10 + p) (k + j) 0) (Ca (10 + p) (k + j) 1) (Cb (54 + p) j 0) (Cb (54 + p) j 1)) (hj : zR (d1 + 7) 51 0 [.ref (85 + 2 * p), .int (Ca 3 u 15), zmk, zmk] [] (zZ L, zI Ca, zPd p0 p2 2 (45 + 4 * u) s4) = some (some (.int (nI (k + w p k))), (zZ L, zI Ca, zPd p0 p2 2 (45 + 4 * u) s4))) (v5 v6 : Value) (hS : Cb (50 + p) k 0 = 12) (hop : Ca (10 + p) (k + w p (k + 1)) 0 = 11) (h1 : Cb (50 + p) k 1 = nI (w p k)) (h2 : Cb (50 + p) k 2 = nI (w p (k + 1))) (hd : zdp (Cb (54 + p)) (w p (k + 1) - w p k) (w p k) 0 = some 1) : zDay d1 d2 L p0 p2 r2 r3 s4 u g v5 v6 Ca Cb := by
  have hop15 : Ca (10 + p) (k + w p (k + 1)) 0 ≤ 15 := by rw [hop]; decide
  have hmk := hm k hkN
  have hmN := zmonw hm (show k + 1 ≤ N by omega) (Nat.le_refl N)
  obtain ⟨C1, D, x, hW, hm0, s1, s2, hsf, hD⟩ := W_1 (d1 + 1) d2 L p0 p2 r2 r3 s4 w u Ca Cb hu4 hu hnum h hp hN hkN hg h10 h15 hn hU hU1 hm hA hj v5 v6 hop15 hd
  have z1 := zWu_s h (hsf) (hD)
  have z2 := zWu_setA z1 hp (by rw [hD 43 (by decide)]; exact h10) (by rw [hD 40 (by decide)]; exact hn) hN (show k + 1 ≤ N by omega) (nI (k + w p (k + 1) + 1))
  obtain ⟨C2, hC2⟩ : ∃ C2, C2 = zcs C1 3 (zup (C1 3) u 15 (nI (k + w p (k + 1) + 1))) := ⟨_, rfl⟩
  have q2 : ∀ g, g ≠ 3 → C2 g = C1 g := fun g hg => by rw [hC2, zcs_n _ _ hg]
  have q15 : C2 3 u 15 = nI (k + 1 + w p (k + 1)) := by rw [hC2, zcs_eq, zup_g, show k + w p (k + 1) + 1 = k + 1 + w p (k + 1) by omega]
  have qa : zFa Ca C2 := by rw [hC2]; exact zFa_s (zFa_sf (hsf)) (by omega)
  have q4 : C2 392 0 4 = Ca 392 0 4 := by rw [q2 392 (by decide)]; exact (hsf).1
  have qU : C2 0 0 (14 + p) = nI (N + w p N) := by rw [q2 0 (by decide), (hsf).2 0 (by decide) (by decide)]; exact hU
  have qop : C2 (10 + p) (k + w p (k + 1)) 0 = Ca (10 + p) (k + w p (k + 1)) 0 := by rw [q2 (10 + p) (by omega), (hsf).2 (10 + p) (by omega) (by omega)]
  rw [← hC2] at z2 hW
  have t1 : C2 392 0 1 = nI 1 := by rw [q2 392 (by decide)]; exact s1
  have t2 : C2 393 0 0 = x := by rw [q2 393 (by decide)]; exact s2
  have d10 : D 43 u 10 = nI p := by rw [hD 43 (by decide)]; exact h10
  have dn : D 40 0 (14 + p) = nI N := by rw [hD 40 (by decide)]; exact hn
  have z3 := zWu_s z2 (zSF_pop C2 (nI 0)) (fun g _ => rfl)
  by_cases hx : x = 0
  · have hm9 := M209_unt0 d2 L p0 p2 r2 r3 s4 hu4 Cb D hp (show k < 120 by omega) h15 hS h10 hD _ _ h1 h2 x hm0 hx
    have z4 : zWu w u (nI (k + w p k)) (nI k) (zcs (zcs C2 392 (zup (C2 392) 0 1 (nI 0))) 3 (zup (C2 3) u 15 (nI (k + w p k)))) D := zWu_setA z3 hp d10 dn hN (show k ≤ N by omega) (nI (k + w p k))
    refine ⟨_, _, Or.inl ⟨hW.trans ?_, M208_0 d2 L p0 p2 r2 r3 s4 hu4 Cb hp hN hg h10 h15 hn v5 v6 hkN _ hm9⟩, zWu_fin z4 hp d10 (by omega) (by rw [zcs_eq, zup_g]), zFa_s (zFa_s qa (by omega)) (by omega), zFb_s (zFb_pi hD) (by omega), ?_, ?_, ?_⟩
    · rw [hop]
      exact C95_unt0 (d1 + 7) L p0 p2 s4 u hu4 C2 _ _ _ _ t1 (t2.trans hx)
    · rw [zcs_n _ _ (by decide), zcs_eq, zup_n _ _ (by omega)]; exact q4
    · rw [zcs_n _ _ (by decide), hD 40 (by decide)]
    · rw [zcs_n _ _ (by decide), hD 40 (by decide)]
  · have hm9 := M209_unt1 d2 L p0 p2 r2 r3 s4 hu4 Cb D hp (show k < 120 by omega) h15 hS h10 hD _ _ h1 h2 x hm0 hx
    refine ⟨_, _, Or.inr ⟨hW.trans ?_, M208_1 d2 L p0 p2 r2 r3 s4 hu4 Cb hp hN hg h10 h15 hn v5 v6 hkN _ hm9⟩, zWu_fin z3 hp d10 (by omega) (by rw [zcs_n _ _ (by decide)]; exact q15), zFa_s qa (by omega), zFb_s (zFb_pi hD) (by omega), ?_, ?_, ?_⟩
    · rw [hop]
      exact C95_unt1 (d1 + 7) L p0 p2 s4 u hu4 C2 _ _ _ _ t1 (fun e => hx (t2.symm.trans e))
    · rw [zcs_eq, zup_n _ _ (by omega)]; exact q4
    · rw [zcs_n _ _ (by decide), hD 40 (by decide)]
    · rw [zcs_n _ _ (by decide), hD 40 (by decide)]
theorem D_burn (d1 d2 L p0 p2 r2 r3 s4 : Nat) (w : Nat → Nat → Nat) (u : Nat) (Ca Cb : zCt) (hu4 : u < 4) (hu : u < zix (Cb 40 0 6)) (hnum : Ca 392 0 4 = nI u) {p k N g : Nat} (h : zWu w u (nI (k + w p k)) (nI k) Ca Cb) (hp : p < 4) (hN : N ≤ 120) (hkN : k < N) (hg : g < 30) (h10 : Cb 43 u 10 = nI p) (h15 : Cb 43 u 15 = nI k) (hn : Cb 40 0 (14 + p) = nI N) (hU : Ca 0 0 (14 + p) = nI (N + w p N)) (hU1 : N + w p N ≤ 120) (hm : ∀ k, k < N → w p k ≤ w p (k + 1)) (hA : ∀ j, w p k ≤ j → j < w p (k + 1) → zwr (Ca (10 + p) (k + j) 0) (Ca (10 + p) (k + j) 1) (Cb (54 + p) j 0) (Cb (54 + p) j 1)) (hj : zR (d1 + 7) 51 0 [.ref (85 + 2 * p), .int (Ca 3 u 15), zmk, zmk] [] (zZ L, zI Ca, zPd p0 p2 2 (45 + 4 * u) s4) = some (some (.int (nI (k + w p k))), (zZ L, zI Ca, zPd p0 p2 2 (45 + 4 * u) s4))) (v5 v6 : Value) (hS : Cb (50 + p) k 0 = 2) (hop : Ca (10 + p) (k + w p (k + 1)) 0 = 1) (h1 : Cb (50 + p) k 1 = nI (w p k)) (h3 : Cb (50 + p) k 3 = nI (w p (k + 1))) (m : Nat) (hm1 : w p k ≤ m) (hm2 : m ≤ w p (k + 1)) (h2 : Cb (50 + p) k 2 = nI m) (hd : zdp (Cb (54 + p)) (m - w p k) (w p k) 0 = some 1) (hd2 : zdp (Cb (54 + p)) (w p (k + 1) - m) m 0 = some 1) : zDay d1 d2 L p0 p2 r2 r3 s4 u g v5 v6 Ca Cb := by
  have hop15 : Ca (10 + p) (k + w p (k + 1)) 0 ≤ 15 := by rw [hop]; decide
  have hmk := hm k hkN
  have hmN := zmonw hm (show k + 1 ≤ N by omega) (Nat.le_refl N)
  obtain ⟨C1, D, D', x, y, hW, hm0, hm0', s1, s2, s3, hsf, hD, hD'⟩ := W_2 (d1 + 1) d2 L p0 p2 r2 r3 s4 w u Ca Cb hu4 hu hnum h hp hN hkN hg h10 h15 hn hU hU1 hm hA hj v5 v6 hop15 m hm1 hm2 hd hd2
  have z1 := zWu_s h (hsf) (hD')
  have z2 := zWu_setA z1 hp (by rw [hD' 43 (by decide)]; exact h10) (by rw [hD' 40 (by decide)]; exact hn) hN (show k + 1 ≤ N by omega) (nI (k + w p (k + 1) + 1))
  obtain ⟨C2, hC2⟩ : ∃ C2, C2 = zcs C1 3 (zup (C1 3) u 15 (nI (k + w p (k + 1) + 1))) := ⟨_, rfl⟩
  have q2 : ∀ g, g ≠ 3 → C2 g = C1 g := fun g hg => by rw [hC2, zcs_n _ _ hg]
  have q15 : C2 3 u 15 = nI (k + 1 + w p (k + 1)) := by rw [hC2, zcs_eq, zup_g, show k + w p (k + 1) + 1 = k + 1 + w p (k + 1) by omega]
  have qa : zFa Ca C2 := by rw [hC2]; exact zFa_s (zFa_sf (hsf)) (by omega)
  have q4 : C2 392 0 4 = Ca 392 0 4 := by rw [q2 392 (by decide)]; exact (hsf).1
  have qU : C2 0 0 (14 + p) = nI (N + w p N) := by rw [q2 0 (by decide), (hsf).2 0 (by decide) (by decide)]; exact hU
  have qop : C2 (10 + p) (k + w p (k + 1)) 0 = Ca (10 + p) (k + w p (k + 1)) 0 := by rw [q2 (10 + p) (by omega), (hsf).2 (10 + p) (by omega) (by omega)]
  rw [← hC2] at z2 hW
  obtain ⟨Ca', Cb', a1, a2, a3, a4, a5, ⟨c1, c6, c0⟩, ⟨b1, b2, b3, b4⟩⟩ := A_burn d1 d2 L p0 p2 r2 r3 s4 w u _ _ C2 D' hu4 (by rw [hD' 40 (by decide)]; exact hu) x y (by rw [q2 392 (by decide)]; exact s1) (by rw [q2 393 (by decide)]; exact s2) (by rw [q2 393 (by decide)]; exact s3) z2
  have hm9 := M209_burn d2 L p0 p2 r2 r3 s4 hu4 Cb D hp (show k < 120 by omega) h15 hS h10 hD _ _ h1 h2 x hm0 D' Cb' _ h3 y hm0' a2
  have b1' : Cb' 43 u 10 = nI p := by rw [b1, hD' 43 (by decide)]; exact h10
  refine ⟨Ca', _, Or.inl ⟨hW.trans ?_, M208_0 d2 L p0 p2 r2 r3 s4 hu4 Cb hp hN hg h10 h15 hn v5 v6 hkN _ hm9⟩, zWu_fin a3 hp b1' (by omega) (by rw [b3]; exact q15), zFa_t qa a4, zFb_s (zFb_t (zFb_pi hD') a5) (by omega), ?_, ?_, ?_⟩
  · rw [hop]
    exact C95_act (d1 + 7) L p0 p2 s4 u hu4 C2 hp (U := N + w p N) (by omega) hU1 qU _ _ _ (qop.trans hop) (by decide) Ca' (C59_burn (d1 + 6) L p0 p2 s4 u C2 Ca' a1)
  · rw [c1]; exact q4
  · rw [zcs_n _ _ (by decide), c6, hD' 40 (by decide)]
  · rw [zcs_n _ _ (by decide), c0, hD' 40 (by decide)]

theorem D_all (d1 d2 L p0 p2 r2 r3 s4 : Nat) (w : Nat → Nat → Nat) (u : Nat) (Ca Cb : zCt) (hu4 : u < 4) (hu : u < zix (Cb 40 0 6)) (hnum : Ca 392 0 4 = nI u) {p k N g : Nat} (h : zWu w u (nI (k + w p k)) (nI k) Ca Cb) (hp : p < 4) (hN : N ≤ 120) (hkN : k < N) (hg : g < 30) (h10 : Cb 43 u 10 = nI p) (h15 : Cb 43 u 15 = nI k) (hn : Cb 40 0 (14 + p) = nI N) (hU : Ca 0 0 (14 + p) = nI (N + w p N)) (hU1 : N + w p N ≤ 120) (hm : ∀ k, k < N → w p k ≤ w p (k + 1)) (hA : ∀ j, w p k ≤ j → j < w p (k + 1) → zwr (Ca (10 + p) (k + j) 0) (Ca (10 + p) (k + j) 1) (Cb (54 + p) j 0) (Cb (54 + p) j 1)) (hj : zR (d1 + 7) 51 0 [.ref (85 + 2 * p), .int (Ca 3 u 15), zmk, zmk] [] (zZ L, zI Ca, zPd p0 p2 2 (45 + 4 * u) s4) = some (some (.int (nI (k + w p k))), (zZ L, zI Ca, zPd p0 p2 2 (45 + 4 * u) s4))) (v5 v6 : Value) (hs : zsr (Cb (50 + p)) (Cb (54 + p)) (w p) N k (Ca (10 + p) (k + w p (k + 1)) 0) (Ca (10 + p) (k + w p (k + 1)) 1)) (hne : ¬ Cb (50 + p) k 0 = 14) : zDay d1 d2 L p0 p2 r2 r3 s4 u g v5 v6 Ca Cb := by
  rcases hs with ⟨o, ho1, ho2, hS, hop, hw0⟩ | ⟨hS, hop, harg, hw0⟩ | ⟨hS, hop, h1, h3, m, hm1, hm2, h2, hd, hd2⟩ | ⟨hS, hop, h1, h2, hd⟩ | ⟨hS, hop, h1, h2, hd, T, hT, h3, harg⟩ | ⟨hS, _⟩
  · rcases (show o = 3 ∨ o = 4 ∨ o = 5 ∨ o = 6 ∨ o = 7 ∨ o = 8 ∨ o = 9 ∨ o = 10 ∨ o = 11 by omega) with rfl | rfl | rfl | rfl | rfl | rfl | rfl | rfl | rfl
    · exact D_dock d1 d2 L p0 p2 r2 r3 s4 w u Ca Cb hu4 hu hnum h hp hN hkN hg h10 h15 hn hU hU1 hm hA hj v5 v6 hS hop hw0
    · exact D_free d1 d2 L p0 p2 r2 r3 s4 w u Ca Cb hu4 hu hnum h hp hN hkN hg h10 h15 hn hU hU1 hm hA hj v5 v6 hS hop hw0
    · exact D_dig d1 d2 L p0 p2 r2 r3 s4 w u Ca Cb hu4 hu hnum h hp hN hkN hg h10 h15 hn hU hU1 hm hA hj v5 v6 hS hop hw0
    · exact D_make d1 d2 L p0 p2 r2 r3 s4 w u Ca Cb hu4 hu hnum h hp hN hkN hg h10 h15 hn hU hU1 hm hA hj v5 v6 hS hop hw0
    · exact D_give d1 d2 L p0 p2 r2 r3 s4 w u Ca Cb hu4 hu hnum h hp hN hkN hg h10 h15 hn hU hU1 hm hA hj v5 v6 hS hop hw0
    · exact D_still d1 d2 L p0 p2 r2 r3 s4 w u Ca Cb hu4 hu hnum h hp hN hkN hg h10 h15 hn hU hU1 hm hA hj v5 v6 hS hop hw0
    · exact D_shed d1 d2 L p0 p2 r2 r3 s4 w u Ca Cb hu4 hu hnum h hp hN hkN hg h10 h15 hn hU hU1 hm hA hj v5 v6 hS hop hw0
    · exact D_claim d1 d2 L p0 p2 r2 r3 s4 w u Ca Cb hu4 hu hnum h hp hN hkN hg h10 h15 hn hU hU1 hm hA hj v5 v6 hS hop hw0
    · exact D_wait d1 d2 L p0 p2 r2 r3 s4 w u Ca Cb hu4 hu hnum h hp hN hkN hg h10 h15 hn hU hU1 hm hA hj v5 v6 hS hop hw0
  · exact D_aim d1 d2 L p0 p2 r2 r3 s4 w u Ca Cb hu4 hu hnum h hp hN hkN hg h10 h15 hn hU hU1 hm hA hj v5 v6 hS hop harg hw0
  · exact D_burn d1 d2 L p0 p2 r2 r3 s4 w u Ca Cb hu4 hu hnum h hp hN hkN hg h10 h15 hn hU hU1 hm hA hj v5 v6 hS hop h1 h3 m hm1 hm2 h2 hd hd2
  · exact D_until d1 d2 L p0 p2 r2 r3 s4 w u Ca Cb hu4 hu hnum h hp hN hkN hg h10 h15 hn hU hU1 hm hA hj v5 v6 hS hop h1 h2 hd
  · exact D_ask d1 d2 L p0 p2 r2 r3 s4 w u Ca Cb hu4 hu hnum h hp hN hkN hg h10 h15 hn hU hU1 hm hA hj v5 v6 hS hop h1 h2 hd T hT h3 harg
  · exact absurd hS hne

