/-! KEEP AND BACK, printed by wip/gen/pub17.py -/
theorem zdp_c {W W' : zGp} : ∀ (n j s : Nat), (∀ i, i < j + n → W' i 0 = W i 0) → zdp W' n j s = zdp W n j s := by
  intro n
  induction n with
  | zero => intro j s h; rfl
  | succ n ih =>
    intro j s h
    unfold zdp
    rw [h j (by omega), ih (j + 1) (s + 1) (fun i hi => h i (by omega)), ih (j + 1) s (fun i hi => h i (by omega)), ih (j + 1) (s - 1) (fun i hi => h i (by omega))]
theorem zmono {w : Nat → Nat} {N : Nat} (h : ∀ k, k < N → w k ≤ w (k + 1)) : ∀ m k, k + m ≤ N → w k ≤ w (k + m) := by
  intro m
  induction m with
  | zero => intro k _; exact Nat.le_refl _
  | succ m ih => intro k hk; exact Nat.le_trans (ih k (by omega)) (h (k + m) (by omega))
theorem zmonoN {w : Nat → Nat} {N k : Nat} (h : ∀ k, k < N → w k ≤ w (k + 1)) (hk : k ≤ N) : w k ≤ w N := by
  have := zmono h (N - k) k (by omega)
  rwa [show k + (N - k) = N by omega] at this
theorem zLay_c {u n u' n' : Int32} {A S W A' S' W' : zGp} {w : Nat → Nat} (h : zLay u n A S W w) (hu : u' = u) (hn : n' = n) (hA : ∀ i, i < zix u → ∀ f, f < 2 → A' i f = A i f) (hS : ∀ i, i < 120 → ∀ f, f < 4 → S' i f = S i f) (hW : ∀ i, i < 120 → ∀ f, f < 2 → W' i f = W i f) : zLay u' n' A' S' W' w := by
  obtain ⟨N, hN, hN1, hw0, hwm, hwN, hU, hrow⟩ := h
  subst hu hn
  refine ⟨N, hN, hN1, hw0, hwm, hwN, hU, fun k hk => ?_⟩
  have hk1 : w (k + 1) ≤ w N := zmonoN hwm (by omega)
  have hk0 := hwm k hk
  rw [hU, zix_n (by omega)] at hA
  obtain ⟨r1, r2⟩ := hrow k hk
  refine ⟨fun j h1 h2 => ?_, ?_⟩
  · rw [hA _ (by omega) 0 (by decide), hA _ (by omega) 1 (by decide), hW _ (by omega) 0 (by decide), hW _ (by omega) 1 (by decide)]
    exact r1 j h1 h2
  · rw [hA _ (by omega) 0 (by decide), hA _ (by omega) 1 (by decide)]
    have e0 := hS k (by omega) 0 (by decide)
    have e1 := hS k (by omega) 1 (by decide)
    have e2 := hS k (by omega) 2 (by decide)
    have e3 := hS k (by omega) 3 (by decide)
    have hd : ∀ m j, j + m ≤ 120 → zdp W' m j 0 = zdp W m j 0 := fun m j hj => zdp_c m j 0 (fun i hi => hW i (by omega) 0 (by decide))
    unfold zsr at r2 ⊢
    rw [e0, e1, e2, e3]
    rcases r2 with r | r | ⟨q1, q2, q3, q4, m, m1, m2, q5, q6, q7⟩ | ⟨q1, q2, q3, q4, q5⟩ | ⟨q1, q2, q3, q4, q5, q6⟩ | ⟨q1, q2, q3, T, t1, t2, t3, t4⟩
    · exact Or.inl r
    · exact Or.inr (Or.inl r)
    · exact Or.inr (Or.inr (Or.inl ⟨q1, q2, q3, q4, m, m1, m2, q5, by rw [hd _ _ (by omega)]; exact q6, by rw [hd _ _ (by omega)]; exact q7⟩))
    · exact Or.inr (Or.inr (Or.inr (Or.inl ⟨q1, q2, q3, q4, by rw [hd _ _ (by omega)]; exact q5⟩)))
    · exact Or.inr (Or.inr (Or.inr (Or.inr (Or.inl ⟨q1, q2, q3, q4, by rw [hd _ _ (by omega)]; exact q5, q6⟩))))
    · refine Or.inr (Or.inr (Or.inr (Or.inr (Or.inr ⟨q1, q2, q3, T, t1, t2, t3, t4.imp id (fun ⟨z1, z2⟩ => ⟨z1, ?_⟩)⟩))))
      rw [hS T (by omega) 0 (by decide)]; exact z2
theorem zWR_c {a0 a1 a2 a3 a4 a5 a6 a7 a8 a9 : zGp} {ap : Nat → zGp} {b0 b1 b2 b3 b4 b5 b6 b7 b8 b9 : zGp} {bs bw : Nat → zGp} {c0 c1 c2 c3 c4 c5 c6 c7 c8 c9 : zGp} {cp : Nat → zGp} {d0 d1 d2 d3 d4 d5 d6 d7 d8 d9 : zGp} {ds dw : Nat → zGp}
    (h : zWR a0 a1 a2 a3 a4 a5 a6 a7 a8 a9 ap b0 b1 b2 b3 b4 b5 b6 b7 b8 b9 bs bw)
    (h0 : ∀ f, f < 18 → c0 0 f = a0 0 f) (h1 : ∀ i, i < zix (b0 0 4) → ∀ f, f < 3 → c1 i f = a1 i f) (h2 : ∀ i, i < zix (b0 0 5) → ∀ f, f < 15 → c2 i f = a2 i f) (h3 : ∀ i, i < zix (b0 0 6) → ∀ f, f < 23 ∧ f ≠ 16 → c3 i f = a3 i f) (h4 : ∀ i, i < zix (b0 0 7) → ∀ f, f < 3 → c4 i f = a4 i f) (h5 : ∀ i, i < zix (b0 0 8) → ∀ f, f < 8 → c5 i f = a5 i f) (h6 : ∀ i, i < zix (b0 0 9) → ∀ f, f < 3 → c6 i f = a6 i f) (h7 : ∀ i, i < zix (b0 0 10) → ∀ f, f < 7 → c7 i f = a7 i f) (h8 : ∀ i, i < zix (b0 0 11) → ∀ f, f < 6 → c8 i f = a8 i f) (h9 : ∀ i, i < zix (b0 0 13) → ∀ f, f < 4 → c9 i f = a9 i f) (hp : ∀ p, p < 4 → ∀ i, i < zix (a0 0 (14 + p)) → ∀ f, f < 2 → cp p i f = ap p i f)
    (k0 : ∀ f, f < 18 → d0 0 f = b0 0 f) (k1 : ∀ i, i < 3 → ∀ f, f < 3 → d1 i f = b1 i f) (k2 : ∀ i, i < 8 → ∀ f, f < 16 → d2 i f = b2 i f) (k3 : ∀ i, i < 4 → ∀ f, f < 28 → d3 i f = b3 i f) (k4 : ∀ i, i < 30 → ∀ f, f < 3 → d4 i f = b4 i f) (k5 : ∀ i, i < 60 → ∀ f, f < 8 → d5 i f = b5 i f) (k6 : ∀ i, i < 20 → ∀ f, f < 3 → d6 i f = b6 i f) (k7 : ∀ i, i < 8 → ∀ f, f < 8 → d7 i f = b7 i f) (k8 : ∀ i, i < 16 → ∀ f, f < 6 → d8 i f = b8 i f) (k9 : ∀ i, i < 6 → ∀ f, f < 4 → d9 i f = b9 i f) (ks : ∀ p, p < 4 → ∀ i, i < 130 → ∀ f, f < 4 → ds p i f = bs p i f) (kw : ∀ p, p < 4 → ∀ i, i < 130 → ∀ f, f < 2 → dw p i f = bw p i f) :
    zWR c0 c1 c2 c3 c4 c5 c6 c7 c8 c9 cp d0 d1 d2 d3 d4 d5 d6 d7 d8 d9 ds dw := by
  obtain ⟨w, ⟨g, g0, g1, g2, g3, g4, g5, g6, g7, g8, g9, g10, g11, g12, g13⟩, hS, hRR, hT, hO, hE, hC, hK, hW, hL, hP⟩ := h
  have kk : ∀ f, f < 18 → d0 0 f = b0 0 f := k0
  have j4 := (zcnt g4 (by decide)).1
  have j5 := (zcnt g5 (by decide)).1
  have j6 := (zcnt g6 (by decide)).1
  have j7 := (zcnt g7 (by decide)).1
  have j8 := (zcnt g8 (by decide)).1
  have j9 := (zcnt g9 (by decide)).1
  have j10 := (zcnt g10 (by decide)).1
  have j11 := (zcnt g11 (by decide)).1
  have j13 := (zcnt g13 (by decide)).1
  refine ⟨w, ⟨fun f hf => by rw [h0 f (by omega), k0 f (by omega)]; exact g f hf, ?_⟩, ?_, ?_, ?_, ?_, ?_, ?_, ?_, ?_, ?_, ?_⟩
  · rw [k0 0 (by decide), k0 1 (by decide), k0 2 (by decide), k0 3 (by decide), k0 4 (by decide), k0 5 (by decide), k0 6 (by decide), k0 7 (by decide), k0 8 (by decide), k0 9 (by decide), k0 10 (by decide), k0 11 (by decide), k0 12 (by decide), k0 13 (by decide)]
    exact ⟨g0, g1, g2, g3, g4, g5, g6, g7, g8, g9, g10, g11, g12, g13⟩
  · intro i hi f hf
    rw [k0 4 (by decide)] at hi
    rw [h1 i hi f hf, k1 i (by omega) f hf]
    exact hS i hi f hf
  · intro i hi
    rw [k0 5 (by decide)] at hi
    have e : ∀ f, f < 15 → c2 i f = a2 i f := h2 i hi
    have e' : ∀ f, f < 16 → d2 i f = b2 i f := k2 i (by omega)
    obtain ⟨q1, q2, q3, q4, q5, q6, q7, q8, q9⟩ := hRR i hi
    unfold zRR1
    rw [e 10 (by decide), e' 10 (by decide), e' 0 (by decide), e' 5 (by decide), e' 6 (by decide), e' 7 (by decide), e' 8 (by decide), e' 9 (by decide)]
    exact ⟨fun f hf hf2 => by rw [e f hf, e' f (by omega)]; exact q1 f hf hf2, q2, q3, fun f hf hf2 => by rw [e' f (by omega)]; exact q4 f hf hf2, q5, q6, q7, q8, q9⟩
  · intro i hi
    rw [k0 6 (by decide)] at hi
    have e : ∀ f, f < 23 ∧ f ≠ 16 → c3 i f = a3 i f := h3 i hi
    have e' : ∀ f, f < 28 → d3 i f = b3 i f := k3 i (by omega)
    obtain ⟨q1, q2, q3, q4, q5, q6, q7, q8, q9, q10, q11, q12⟩ := hT i hi
    unfold zRT1
    rw [k0 5 (by decide), e 9 (by decide), e 10 (by decide), e 15 (by decide), e 22 (by decide), e' 0 (by decide), e' 5 (by decide), e' 6 (by decide), e' 7 (by decide), e' 8 (by decide), e' 9 (by decide), e' 10 (by decide), e' 14 (by decide), e' 15 (by decide), e' 16 (by decide), e' 22 (by decide)]
    refine ⟨fun f hf hf2 hf3 => by rw [e f (by omega), e' f (by omega)]; exact q1 f hf hf2 hf3, q2, q3, q4, fun f hf hf2 => by rw [e' f (by omega)]; exact q5 f hf hf2, q6, q7, q8, q9, q10, q11.imp id (fun ⟨p, k, z1, z2, z3, z4, z5⟩ => ⟨p, k, z1, z2, z3, by show k ≤ zix (d0 0 (14 + p)); rw [k0 _ (by omega)]; exact z4, z5⟩), q12.imp id (fun ⟨z1, z2, z3⟩ => ⟨z1, fun k hk => by rw [e _ (by omega), e' _ (by omega)]; exact z2 k hk, z3⟩)⟩
  · intro i hi
    rw [k0 7 (by decide)] at hi
    have e' : ∀ f, f < 3 → d4 i f = b4 i f := k4 i (by omega)
    obtain ⟨q1, q2, q3⟩ := hO i hi
    rw [k0 6 (by decide), e' 0 (by decide), e' 1 (by decide)]
    exact ⟨fun f hf => by rw [h4 i hi f hf, e' f hf]; exact q1 f hf, q2, q3⟩
  · intro i hi
    rw [k0 8 (by decide)] at hi
    have e' : ∀ f, f < 8 → d5 i f = b5 i f := k5 i (by omega)
    obtain ⟨q1, q2, q3⟩ := hE i hi
    rw [k0 6 (by decide), e' 0 (by decide), e' 6 (by decide)]
    exact ⟨fun f hf => by rw [h5 i hi f hf, e' f hf]; exact q1 f hf, q2, q3⟩
  · intro i hi
    rw [k0 9 (by decide)] at hi
    have e' : ∀ f, f < 3 → d6 i f = b6 i f := k6 i (by omega)
    obtain ⟨q1, q2, q3⟩ := hC i hi
    rw [k0 6 (by decide), k0 5 (by decide), e' 0 (by decide), e' 1 (by decide)]
    exact ⟨fun f hf => by rw [h6 i hi f hf, e' f hf]; exact q1 f hf, q2, q3⟩
  · intro i hi
    rw [k0 10 (by decide)] at hi
    have e : ∀ f, f < 7 → c7 i f = a7 i f := h7 i hi
    have e' : ∀ f, f < 8 → d7 i f = b7 i f := k7 i (by omega)
    obtain ⟨q1, q2⟩ := hK i hi
    unfold zRK1
    rw [k0 0 (by decide), k0 5 (by decide), e 6 (by decide), e' 0 (by decide), e' 1 (by decide), e' 2 (by decide), e' 3 (by decide), e' 4 (by decide), e' 5 (by decide), e' 6 (by decide), e' 7 (by decide)]
    exact ⟨fun f hf => by rw [e f (by omega), e' f (by omega)]; exact q1 f hf, q2⟩
  · intro i hi
    rw [k0 11 (by decide)] at hi
    have e' : ∀ f, f < 6 → d8 i f = b8 i f := k8 i (by omega)
    obtain ⟨q1, q2⟩ := hW i hi
    rw [k0 5 (by decide), e' 0 (by decide), e' 1 (by decide), e' 2 (by decide), e' 3 (by decide), e' 4 (by decide), e' 5 (by decide)]
    exact ⟨fun f hf => by rw [h8 i hi f hf, e' f hf]; exact q1 f hf, q2⟩
  · intro i hi f hf
    rw [k0 13 (by decide)] at hi
    rw [h9 i hi f hf, k9 i (by omega) f hf]
    exact hL i hi f hf
  · intro p hp4
    exact zLay_c (hP p hp4) (h0 _ (by omega)) (k0 _ (by omega)) (hp p hp4) (fun i hi f hf => ks p hp4 i (by omega) f hf) (fun i hi f hf => kw p hp4 i (by omega) f hf)
/-- the row of world t is the row of world s -/
def zcpS (C : zCt) (s t : Nat) : zCt := fun g i f => if t ≤ g ∧ g < t + 19 ∧ zuS (g - t) i f < 4214 then C (s + (g - t)) i f else C g i f
def zhpS (I : Nat → Nat → Int32) (a b k : Nat) : Nat → Nat → Int32 := fun x j => if x = b ∧ j < k then I a j else I x j
theorem zhpS_0 (I : Nat → Nat → Int32) (a b : Nat) : zhpS I a b 0 = I := by
  funext x j
  exact if_neg (by omega)
theorem zhpS_st (I : Nat → Nat → Int32) {a b : Nat} (k : Nat) (h : a ≠ b) : zup (zhpS I a b k) b k (zhpS I a b k a k) = zhpS I a b (k + 1) := by
  funext x j
  unfold zup zhpS
  rw [if_neg (show ¬ (a = b ∧ k < k) by omega)]
  by_cases h1 : x = b ∧ j = k
  · rw [if_pos h1, if_pos ⟨h1.1, by omega⟩, h1.2]
  · rw [if_neg h1]
    by_cases h2 : x = b ∧ j < k
    · rw [if_pos h2, if_pos ⟨h2.1, by omega⟩]
    · rw [if_neg h2, if_neg (by omega)]
theorem zcpS_k (C : zCt) : zhpS (zI C) 202 203 4214 = zI (zcpS C 40 60) := by
  funext x j
  unfold zhpS
  by_cases e : x = 203
  · subst e
    have hk : zdk 203 j = some (60 + (zdS j).1, (zdS j).2.1, (zdS j).2.2) := rfl
    have hk2 : zdk 202 j = some (40 + (zdS j).1, (zdS j).2.1, (zdS j).2.2) := rfl
    have hu := zdS_u j
    rw [zI_get hk, zI_get hk2, zI_get hk]
    unfold zcpS
    rw [Nat.add_sub_cancel_left, hu.1]
    by_cases h : j < 4214
    · rw [if_pos ⟨rfl, h⟩, if_pos ⟨by omega, by omega, h⟩]
    · rw [if_neg (by omega), if_neg (by omega)]
  · rw [if_neg (fun h => e h.1)]
    unfold zI
    cases hk : zdk x j with
    | none => rfl
    | some t =>
      have ht : zdec x j = t := by
        unfold zdk at hk
        split at hk
        · cases hk
        · exact Option.some.inj hk
      show C t.1 t.2.1 t.2.2 = zcpS C 40 60 t.1 t.2.1 t.2.2
      unfold zcpS
      rw [if_neg]
      rintro ⟨h1, h2, h3⟩
      have h4 := zdec_u x j
      rw [ht] at h4
      have h5 : (zunc t.1 t.2.1 t.2.2).1 = 203 := by
        unfold zunc
        rw [if_neg (by omega), if_neg (by omega), if_neg (by omega), if_neg (by omega), if_neg (by omega)]
      rw [h4] at h5
      exact e h5
theorem zcpS_kg (C : zCt) {g i f : Nat} (h1 : g < 19) (h2 : zuS g i f < 4214) : zcpS C 40 60 (60 + g) i f = C (40 + g) i f := by
  unfold zcpS
  rw [Nat.add_sub_cancel_left, if_pos ⟨by omega, by omega, h2⟩]
theorem zcpS_ko (C : zCt) {g : Nat} (h : ¬ (60 ≤ g ∧ g < 79)) : zcpS C 40 60 g = C g := by
  funext i f
  exact if_neg (fun e => h ⟨e.1, by omega⟩)
theorem zcpS_b (C : zCt) : zhpS (zI C) 203 202 4214 = zI (zcpS C 60 40) := by
  funext x j
  unfold zhpS
  by_cases e : x = 202
  · subst e
    have hk : zdk 202 j = some (40 + (zdS j).1, (zdS j).2.1, (zdS j).2.2) := rfl
    have hk2 : zdk 203 j = some (60 + (zdS j).1, (zdS j).2.1, (zdS j).2.2) := rfl
    have hu := zdS_u j
    rw [zI_get hk, zI_get hk2, zI_get hk]
    unfold zcpS
    rw [Nat.add_sub_cancel_left, hu.1]
    by_cases h : j < 4214
    · rw [if_pos ⟨rfl, h⟩, if_pos ⟨by omega, by omega, h⟩]
    · rw [if_neg (by omega), if_neg (by omega)]
  · rw [if_neg (fun h => e h.1)]
    unfold zI
    cases hk : zdk x j with
    | none => rfl
    | some t =>
      have ht : zdec x j = t := by
        unfold zdk at hk
        split at hk
        · cases hk
        · exact Option.some.inj hk
      show C t.1 t.2.1 t.2.2 = zcpS C 60 40 t.1 t.2.1 t.2.2
      unfold zcpS
      rw [if_neg]
      rintro ⟨h1, h2, h3⟩
      have h4 := zdec_u x j
      rw [ht] at h4
      have h5 : (zunc t.1 t.2.1 t.2.2).1 = 202 := by
        unfold zunc
        rw [if_neg (by omega), if_neg (by omega), if_neg (by omega), if_neg (by omega), if_pos (by omega)]
      rw [h4] at h5
      exact e h5
theorem zcpS_bg (C : zCt) {g i f : Nat} (h1 : g < 19) (h2 : zuS g i f < 4214) : zcpS C 60 40 (40 + g) i f = C (60 + g) i f := by
  unfold zcpS
  rw [Nat.add_sub_cancel_left, if_pos ⟨by omega, by omega, h2⟩]
theorem zcpS_bo (C : zCt) {g : Nat} (h : ¬ (40 ≤ g ∧ g < 59)) : zcpS C 60 40 g = C g := by
  funext i f
  exact if_neg (fun e => h ⟨e.1, by omega⟩)
theorem zuS_c (i f : Nat) : (zuS 1 i f = 20 + 3 * i + f ∧ zuS 2 i f = 30 + 16 * i + f ∧ zuS 3 i f = 160 + 28 * i + f ∧ zuS 4 i f = 272 + 3 * i + f ∧ zuS 5 i f = 362 + 8 * i + f ∧ zuS 6 i f = 842 + 3 * i + f ∧ zuS 7 i f = 902 + 8 * i + f ∧ zuS 8 i f = 966 + 6 * i + f ∧ zuS 9 i f = 1062 + 4 * i + f) := ⟨rfl, rfl, rfl, rfl, rfl, rfl, rfl, rfl, rfl⟩
theorem zuS_0 {f : Nat} (h : f < 18) : zuS 0 0 f < 4214 := by
  unfold zuS
  rw [if_pos rfl]
  split <;> omega
theorem zuS_s {p i f : Nat} (hp : p < 4) (hi : i < 130) (hf : f < 4) : zuS (10 + p) i f < 4214 := by
  unfold zuS
  simp (disch := omega) only [if_neg, if_pos]
  omega
theorem zuS_w {p i f : Nat} (hp : p < 4) (hi : i < 130) (hf : f < 2) : zuS (14 + p) i f < 4214 := by
  unfold zuS
  simp (disch := omega) only [if_neg, if_pos]
  omega
theorem T249_2 (d L : Nat) (p0 p2 r2 r3 s4 : Nat) (I : Nat → Nat → Int32) : ∀ (m k : Nat), k + m = 4214 → zR d 249 2 [.ref 201, .int (nI k)] [] (zZ L, zhpS I 202 203 k, zPd p0 p2 r2 r3 s4) = zR d 249 27 [.ref 201, .int (nI 4214)] [] (zZ L, zhpS I 202 203 4214, zPd p0 p2 r2 r3 s4) := by
  intro m
  induction m with
  | zero =>
    intro k hk
    have hk : k = 4214 := by omega
    subst hk
    rw [e249_2, if_pos (by decide)]
  | succ m ih =>
    intro k hk
    have hge : ¬ (4214 : Int32) ≤ nI k := nI_ge (a := k) (b := 4214) (by omega) (by decide)
    rw [← ih (k + 1) (by omega), ← zhpS_st I k (by decide), e249_2, if_neg hge, e249_9]
    simp +decide (disch := omega) only [zs1, zs2, zs3, zI_eqb, and_self, not_true_eq_false, if_true, if_false, ite_true, ite_false, not_false_eq_true, zBP, zBZ, zisO, zisA, zlen, decide_true, decide_false, Bool.and_self, Bool.and_true, Bool.true_and, cond_true, cond_false, zBG, zBR, zBU, zBV, zinb_n, zix_n, zlA, zlB, zlM, zlN, zlX, zlI, nI_add, Nat.add_eq_zero_iff, false_and, and_false, and_true, true_and, true_or, or_true, false_or, or_false, zbool_i, zb0, zb1, zshp_0, zcs_eq, zcs_n, zcs_cs, zup_g, zup_n]
theorem T249 (d L : Nat) (p0 p2 r2 r3 s4 : Nat) (C : zCt) : zR d 249 2 [.ref 201, .int 0] [] (zZ L, zI C, zPd p0 p2 r2 r3 s4) = zR d 249 27 [.ref 201, .int (nI 4214)] [] (zZ L, zI (zcpS C 40 60), zPd p0 p2 r2 r3 s4) := by
  have h := T249_2 d L p0 p2 r2 r3 s4 (zI C) 4214 0 rfl
  rw [zhpS_0, zcpS_k] at h
  exact h
theorem T250_12 (d L : Nat) (p0 p2 r2 r3 s4 : Nat) (I : Nat → Nat → Int32) : ∀ (m k : Nat), k + m = 4214 → zR d 250 12 [.ref 201, .int (nI k)] [] (zZ L, zhpS I 203 202 k, zPd p0 p2 r2 r3 s4) = zR d 250 37 [.ref 201, .int (nI 4214)] [] (zZ L, zhpS I 203 202 4214, zPd p0 p2 r2 r3 s4) := by
  intro m
  induction m with
  | zero =>
    intro k hk
    have hk : k = 4214 := by omega
    subst hk
    rw [e250_12, if_pos (by decide)]
  | succ m ih =>
    intro k hk
    have hge : ¬ (4214 : Int32) ≤ nI k := nI_ge (a := k) (b := 4214) (by omega) (by decide)
    rw [← ih (k + 1) (by omega), ← zhpS_st I k (by decide), e250_12, if_neg hge, e250_19]
    simp +decide (disch := omega) only [zs1, zs2, zs3, zI_eqb, and_self, not_true_eq_false, if_true, if_false, ite_true, ite_false, not_false_eq_true, zBP, zBZ, zisO, zisA, zlen, decide_true, decide_false, Bool.and_self, Bool.and_true, Bool.true_and, cond_true, cond_false, zBG, zBR, zBU, zBV, zinb_n, zix_n, zlA, zlB, zlM, zlN, zlX, zlI, nI_add, Nat.add_eq_zero_iff, false_and, and_false, and_true, true_and, true_or, or_true, false_or, or_false, zbool_i, zb0, zb1, zshp_0, zcs_eq, zcs_n, zcs_cs, zup_g, zup_n]
theorem T250 (d L : Nat) (p0 p2 r2 r3 s4 : Nat) (C : zCt) : zR d 250 12 [.ref 201, .int 0] [] (zZ L, zI C, zPd p0 p2 r2 r3 s4) = zR d 250 37 [.ref 201, .int (nI 4214)] [] (zZ L, zI (zcpS C 60 40), zPd p0 p2 r2 r3 s4) := by
  have h := T250_12 d L p0 p2 r2 r3 s4 (zI C) 4214 0 rfl
  rw [zhpS_0, zcpS_b] at h
  exact h
theorem zcpR_k (C C1 : zCt) (h : zWR (C 0) (C 1) (C 2) (C 3) (C 4) (C 5) (C 6) (C 7) (C 8) (C 9) (fun p => C (10 + p % 4)) (C 40) (C 41) (C 42) (C 43) (C 44) (C 45) (C 46) (C 47) (C 48) (C 49) (fun p => C (50 + p % 4)) (fun p => C (54 + p % 4))) (n4 n5 n6 n10 n11 n7 n8 n9 n13 : Nat) (u : Nat → Nat) (hc : C 40 0 4 = nI n4 ∧ C 40 0 5 = nI n5 ∧ C 40 0 6 = nI n6 ∧ C 40 0 10 = nI n10 ∧ C 40 0 11 = nI n11 ∧ C 40 0 7 = nI n7 ∧ C 40 0 8 = nI n8 ∧ C 40 0 9 = nI n9 ∧ C 40 0 13 = nI n13) (hb : n4 ≤ 3 ∧ n5 ≤ 8 ∧ n6 ≤ 4 ∧ n10 ≤ 8 ∧ n11 ≤ 16 ∧ n7 ≤ 30 ∧ n8 ≤ 60 ∧ n9 ≤ 20 ∧ n13 ≤ 6) (hu : ∀ p, p < 4 → C 0 0 (14 + p) = nI (u p) ∧ u p ≤ 120) (hcp : zCp C C1 0 20 n4 n5 n6 n10 n11 n7 n8 n9 n13 u) : zWR (C1 20) (C1 21) (C1 22) (C1 23) (C1 24) (C1 25) (C1 26) (C1 27) (C1 28) (C1 29) (fun p => C1 (30 + p % 4)) ((zcpS C1 40 60) 60) ((zcpS C1 40 60) 61) ((zcpS C1 40 60) 62) ((zcpS C1 40 60) 63) ((zcpS C1 40 60) 64) ((zcpS C1 40 60) 65) ((zcpS C1 40 60) 66) ((zcpS C1 40 60) 67) ((zcpS C1 40 60) 68) ((zcpS C1 40 60) 69) (fun p => (zcpS C1 40 60) (70 + p % 4)) (fun p => (zcpS C1 40 60) (74 + p % 4)) := by
  obtain ⟨z0, z1, z2, z3, z4, z5, z6, z7, z8, z9, z10, z11⟩ := hcp
  obtain ⟨c4, c5, c6, c10, c11, c7, c8, c9, c13⟩ := hc
  have ho : ∀ g, ¬ (20 ≤ g ∧ g < 34) → C1 g = C g := z0
  refine zWR_c h z1 ?_ ?_ ?_ ?_ ?_ ?_ ?_ ?_ ?_ ?_ ?_ ?_ ?_ ?_ ?_ ?_ ?_ ?_ ?_ ?_ ?_ ?_
  · rw [c4, zix_n (by omega)]; exact z2
  · rw [c5, zix_n (by omega)]; exact z3
  · rw [c6, zix_n (by omega)]; exact z4
  · rw [c7, zix_n (by omega)]; exact z5
  · rw [c8, zix_n (by omega)]; exact z6
  · rw [c9, zix_n (by omega)]; exact z7
  · rw [c10, zix_n (by omega)]; exact z8
  · rw [c11, zix_n (by omega)]; exact z9
  · rw [c13, zix_n (by omega)]; exact z10
  · intro p hp
    rw [(hu p hp).1, zix_n (by have := (hu p hp).2; omega)]
    intro i hi f hf
    have := z11 p hp i hi f hf
    rw [Nat.mod_eq_of_lt hp]
    exact this
  · intro f hf; rw [show 60 = 60 + 0 from rfl, zcpS_kg _ (by decide) (zuS_0 hf), ho _ (by decide)]
  · intro i hi f hf; rw [show 61 = 60 + 1 from rfl, zcpS_kg _ (by decide) (by show 20 + 3 * i + f < 4214; omega), ho _ (by decide)]
  · intro i hi f hf; rw [show 62 = 60 + 2 from rfl, zcpS_kg _ (by decide) (by show 30 + 16 * i + f < 4214; omega), ho _ (by decide)]
  · intro i hi f hf; rw [show 63 = 60 + 3 from rfl, zcpS_kg _ (by decide) (by show 160 + 28 * i + f < 4214; omega), ho _ (by decide)]
  · intro i hi f hf; rw [show 64 = 60 + 4 from rfl, zcpS_kg _ (by decide) (by show 272 + 3 * i + f < 4214; omega), ho _ (by decide)]
  · intro i hi f hf; rw [show 65 = 60 + 5 from rfl, zcpS_kg _ (by decide) (by show 362 + 8 * i + f < 4214; omega), ho _ (by decide)]
  · intro i hi f hf; rw [show 66 = 60 + 6 from rfl, zcpS_kg _ (by decide) (by show 842 + 3 * i + f < 4214; omega), ho _ (by decide)]
  · intro i hi f hf; rw [show 67 = 60 + 7 from rfl, zcpS_kg _ (by decide) (by show 902 + 8 * i + f < 4214; omega), ho _ (by decide)]
  · intro i hi f hf; rw [show 68 = 60 + 8 from rfl, zcpS_kg _ (by decide) (by show 966 + 6 * i + f < 4214; omega), ho _ (by decide)]
  · intro i hi f hf; rw [show 69 = 60 + 9 from rfl, zcpS_kg _ (by decide) (by show 1062 + 4 * i + f < 4214; omega), ho _ (by decide)]
  · intro p hp i hi f hf
    rw [Nat.mod_eq_of_lt hp, show 70 + p = 60 + (10 + p) by omega, zcpS_kg _ (by omega) (zuS_s hp hi hf), ho _ (by omega), show 40 + (10 + p) = 50 + p by omega]
  · intro p hp i hi f hf
    rw [Nat.mod_eq_of_lt hp, show 74 + p = 60 + (14 + p) by omega, zcpS_kg _ (by omega) (zuS_w hp hi hf), ho _ (by omega), show 40 + (14 + p) = 54 + p by omega]
theorem zcpR_b (C C1 : zCt) (h : zWR (C 20) (C 21) (C 22) (C 23) (C 24) (C 25) (C 26) (C 27) (C 28) (C 29) (fun p => C (30 + p % 4)) (C 60) (C 61) (C 62) (C 63) (C 64) (C 65) (C 66) (C 67) (C 68) (C 69) (fun p => C (70 + p % 4)) (fun p => C (74 + p % 4))) (n4 n5 n6 n10 n11 n7 n8 n9 n13 : Nat) (u : Nat → Nat) (hc : C 60 0 4 = nI n4 ∧ C 60 0 5 = nI n5 ∧ C 60 0 6 = nI n6 ∧ C 60 0 10 = nI n10 ∧ C 60 0 11 = nI n11 ∧ C 60 0 7 = nI n7 ∧ C 60 0 8 = nI n8 ∧ C 60 0 9 = nI n9 ∧ C 60 0 13 = nI n13) (hb : n4 ≤ 3 ∧ n5 ≤ 8 ∧ n6 ≤ 4 ∧ n10 ≤ 8 ∧ n11 ≤ 16 ∧ n7 ≤ 30 ∧ n8 ≤ 60 ∧ n9 ≤ 20 ∧ n13 ≤ 6) (hu : ∀ p, p < 4 → C 20 0 (14 + p) = nI (u p) ∧ u p ≤ 120) (hcp : zCp C C1 20 0 n4 n5 n6 n10 n11 n7 n8 n9 n13 u) : zWR (C1 0) (C1 1) (C1 2) (C1 3) (C1 4) (C1 5) (C1 6) (C1 7) (C1 8) (C1 9) (fun p => C1 (10 + p % 4)) ((zcpS C1 60 40) 40) ((zcpS C1 60 40) 41) ((zcpS C1 60 40) 42) ((zcpS C1 60 40) 43) ((zcpS C1 60 40) 44) ((zcpS C1 60 40) 45) ((zcpS C1 60 40) 46) ((zcpS C1 60 40) 47) ((zcpS C1 60 40) 48) ((zcpS C1 60 40) 49) (fun p => (zcpS C1 60 40) (50 + p % 4)) (fun p => (zcpS C1 60 40) (54 + p % 4)) := by
  obtain ⟨z0, z1, z2, z3, z4, z5, z6, z7, z8, z9, z10, z11⟩ := hcp
  obtain ⟨c4, c5, c6, c10, c11, c7, c8, c9, c13⟩ := hc
  have ho : ∀ g, ¬ (0 ≤ g ∧ g < 14) → C1 g = C g := z0
  refine zWR_c h z1 ?_ ?_ ?_ ?_ ?_ ?_ ?_ ?_ ?_ ?_ ?_ ?_ ?_ ?_ ?_ ?_ ?_ ?_ ?_ ?_ ?_ ?_
  · rw [c4, zix_n (by omega)]; exact z2
  · rw [c5, zix_n (by omega)]; exact z3
  · rw [c6, zix_n (by omega)]; exact z4
  · rw [c7, zix_n (by omega)]; exact z5
  · rw [c8, zix_n (by omega)]; exact z6
  · rw [c9, zix_n (by omega)]; exact z7
  · rw [c10, zix_n (by omega)]; exact z8
  · rw [c11, zix_n (by omega)]; exact z9
  · rw [c13, zix_n (by omega)]; exact z10
  · intro p hp
    rw [(hu p hp).1, zix_n (by have := (hu p hp).2; omega)]
    intro i hi f hf
    have := z11 p hp i hi f hf
    rw [Nat.mod_eq_of_lt hp]
    exact this
  · intro f hf; rw [show 40 = 40 + 0 from rfl, zcpS_bg _ (by decide) (zuS_0 hf), ho _ (by decide)]
  · intro i hi f hf; rw [show 41 = 40 + 1 from rfl, zcpS_bg _ (by decide) (by show 20 + 3 * i + f < 4214; omega), ho _ (by decide)]
  · intro i hi f hf; rw [show 42 = 40 + 2 from rfl, zcpS_bg _ (by decide) (by show 30 + 16 * i + f < 4214; omega), ho _ (by decide)]
  · intro i hi f hf; rw [show 43 = 40 + 3 from rfl, zcpS_bg _ (by decide) (by show 160 + 28 * i + f < 4214; omega), ho _ (by decide)]
  · intro i hi f hf; rw [show 44 = 40 + 4 from rfl, zcpS_bg _ (by decide) (by show 272 + 3 * i + f < 4214; omega), ho _ (by decide)]
  · intro i hi f hf; rw [show 45 = 40 + 5 from rfl, zcpS_bg _ (by decide) (by show 362 + 8 * i + f < 4214; omega), ho _ (by decide)]
  · intro i hi f hf; rw [show 46 = 40 + 6 from rfl, zcpS_bg _ (by decide) (by show 842 + 3 * i + f < 4214; omega), ho _ (by decide)]
  · intro i hi f hf; rw [show 47 = 40 + 7 from rfl, zcpS_bg _ (by decide) (by show 902 + 8 * i + f < 4214; omega), ho _ (by decide)]
  · intro i hi f hf; rw [show 48 = 40 + 8 from rfl, zcpS_bg _ (by decide) (by show 966 + 6 * i + f < 4214; omega), ho _ (by decide)]
  · intro i hi f hf; rw [show 49 = 40 + 9 from rfl, zcpS_bg _ (by decide) (by show 1062 + 4 * i + f < 4214; omega), ho _ (by decide)]
  · intro p hp i hi f hf
    rw [Nat.mod_eq_of_lt hp, show 50 + p = 40 + (10 + p) by omega, zcpS_bg _ (by omega) (zuS_s hp hi hf), ho _ (by omega), show 60 + (10 + p) = 70 + p by omega]
  · intro p hp i hi f hf
    rw [Nat.mod_eq_of_lt hp, show 54 + p = 40 + (14 + p) by omega, zcpS_bg _ (by omega) (zuS_w hp hi hf), ho _ (by omega), show 60 + (14 + p) = 74 + p by omega]
theorem pr_keep (d L : Nat) (C : zCt) (hR : zRep C) : zPair d 145 249 [.ref 1] [.ref 201, zmk] L C := by
  obtain ⟨⟨w, hG, hS, hRR, hT, hO, hE, hC, hK, hW, hL, hP⟩, hX⟩ := id hR
  have hGe := zRG_e hG
  rintro ⟨p0, p2, r2, r3, s4⟩
  obtain ⟨hIm, hKe, hK01, hTp, hWt, hH0, hH1⟩ := id hX
  obtain ⟨n4, h4, e4⟩ := hG.2.2.2.2.2.1
  obtain ⟨n5, h5, e5⟩ := hG.2.2.2.2.2.2.1
  obtain ⟨n6, h6, e6⟩ := hG.2.2.2.2.2.2.2.1
  obtain ⟨n7, h7, e7⟩ := hG.2.2.2.2.2.2.2.2.1
  obtain ⟨n8, h8, e8⟩ := hG.2.2.2.2.2.2.2.2.2.1
  obtain ⟨n9, h9, e9⟩ := hG.2.2.2.2.2.2.2.2.2.2.1
  obtain ⟨n10, h10, e10⟩ := hG.2.2.2.2.2.2.2.2.2.2.2.1
  obtain ⟨n11, h11, e11⟩ := hG.2.2.2.2.2.2.2.2.2.2.2.2.1
  obtain ⟨n13, h13, e13⟩ := hG.2.2.2.2.2.2.2.2.2.2.2.2.2.2
  have q4 := hG.1 4 (by decide)
  have q5 := hG.1 5 (by decide)
  have q6 := hG.1 6 (by decide)
  have q7 := hG.1 7 (by decide)
  have q8 := hG.1 8 (by decide)
  have q9 := hG.1 9 (by decide)
  have q10 := hG.1 10 (by decide)
  have q11 := hG.1 11 (by decide)
  have q13 := hG.1 13 (by decide)
  have q0 := hG.1 0 (by decide)
  have hbl : ∀ v : Int32, v = 0 ∨ v = 1 → zbool v = true := by
    rintro v (rfl | rfl) <;> rfl
  have htr : zbool (C 0 0 12) = true := hbl _ (by rw [hG.1 12 (by decide)]; exact hG.2.2.2.2.2.2.2.2.2.2.2.2.2.1)
  have hdk : ∀ i, i < n6 → zbool (C 3 i 14) = true := by
    intro i hi
    have q := hT i (by rw [e6, zix_n (by omega)]; exact hi)
    exact hbl _ (by rw [q.1 14 (by decide) (by decide) (by decide)]; exact q.2.2.2.2.2.2.2.2.2.1)
  have hu : ∀ p, p < 4 → C 0 0 (14 + p) = nI (zix (C 0 0 (14 + p))) ∧ zix (C 0 0 (14 + p)) ≤ 120 := by
    intro p hp
    obtain ⟨N, hN, hN1, hw0, hwm, hwN, hU, hrow⟩ := hP p hp
    rw [hU, zix_n (by omega)]
    exact ⟨rfl, hwN⟩
  obtain ⟨C1, a1, a2⟩ := T102k (d + 96) L p0 p2 r2 r3 s4 C n4 n5 n6 n10 n11 n7 n8 n9 n13 (fun p => zix (C 0 0 (14 + p))) h4 h5 h6 h10 h11 h7 h8 h9 h13 (fun p hp => (hu p hp).2) htr hdk ⟨q4.trans e4, q5.trans e5, q6.trans e6, q10.trans e10, q11.trans e11, q7.trans e7, q8.trans e8, q9.trans e9, q13.trans e13⟩ (fun p hp => (hu p hp).1)
  have hw := zcpR_k C C1 hR.1 n4 n5 n6 n10 n11 n7 n8 n9 n13 _ ⟨e4, e5, e6, e10, e11, e7, e8, e9, e13⟩ ⟨h4, h5, h6, h10, h11, h7, h8, h9, h13⟩ hu a2
  have ho := a2.1
  have hm := fun C => T249 (d + 100) L p0 p2 r2 r3 s4 C
  obtain ⟨C2, hC2⟩ : ∃ C2, C2 = zcs C1 201 (zup (C1 201) 0 2 1) := ⟨_, rfl⟩
  have hw2 : zcpS C2 40 60 = zcs (zcpS C1 40 60) 201 (zup (C1 201) 0 2 1) := by
    funext g i f
    rw [hC2]
    unfold zcpS zcs
    by_cases e : g = 201
    · subst e; simp +decide only [if_true, if_false, false_and, and_false]
    · by_cases e2 : 60 ≤ g ∧ g < 60 + 19 ∧ zuS (g - 60) i f < 4214
      · simp only [if_pos e2, if_neg e]
        rw [if_neg (by omega)]
      · simp only [if_neg e2, if_neg e]
  refine ⟨C 40 0 0, C2, (p0, p2, r2, r3, s4), ?_, zcs (zcpS C2 40 60) 401 (zup (C 401) 0 2 1), ?_, ?_, ?_⟩
  · rw [hC2]
    have o0 : C1 0 = C 0 := ho 0 (by decide)
    simp +decide (disch := omega) only [e145_0, e145_11, a1, o0, q0, zpre, ite_self, zs1, zs2, zs3, zI_eqb, and_self, not_true_eq_false, if_true, if_false, ite_true, ite_false, not_false_eq_true, zBP, zBZ, zisO, zisA, zlen, decide_true, decide_false, Bool.and_self, Bool.and_true, Bool.true_and, cond_true, cond_false, zBG, zBR, zBU, zBV, zinb_n, zix_n, zlA, zlB, zlM, zlN, zlX, zlI, nI_add, Nat.add_eq_zero_iff, false_and, and_false, and_true, true_and, true_or, or_true, false_or, or_false, zbool_i, zb0, zb1, zshp_0, zcs_eq, zcs_n, zcs_cs, zup_g, zup_n, zp2_sun, zp2_rock, zp2_tug, zp2_contract, zp2_window, zp2_code, zp2_rbody, zp2_rstock, zp2_tfree, zp2_thold, zp2_tknown, zp2_ccells, zsh2_sun, zsh2_rock, zsh2_body, zsh2_stock, zsh2_tug, zsh2_free, zsh2_hold, zsh2_known, zsh2_contract, zsh2_window, zsh2_code, zsh2_cells, zg_nsun0, zg_nsun1, zg_nsun2, zg_nrock0, zg_nrock1, zg_nrock2, zg_nrock3, zg_nrock4, zg_nrock5, zg_nrock6, zg_nrock7, zg_nrock8, zg_nrock9, zg_nrock10, zg_nrock11, zg_nrock12, zg_nrock13, zg_nrock14, zg_ntug0, zg_ntug1, zg_ntug2, zg_ntug3, zg_ntug4, zg_ntug5, zg_ntug6, zg_ntug7, zg_ntug8, zg_ntug9, zg_ntug10, zg_ntug11, zg_ntug12, zg_ntug13, zg_ntug14, zg_ntug15, zg_ntug17, zg_ntug18, zg_ntug19, zg_ntug20, zg_ntug21, zg_ntug22, zg_ncon0, zg_ncon1, zg_ncon2, zg_ncon3, zg_ncon4, zg_ncon5, zg_ncon6, zg_nwin0, zg_nwin1, zg_nwin2, zg_nwin3, zg_nwin4, zg_nwin5, zg_ncode0, zg_ncode1, zg_ncode3, zg_nrule, zg_nstock, zg_nhold, zg_nknown, zg_nord, zg_nrep, zg_ncla, zg_ntou, zg_ncel, zu_nsun0, zu_nsun1, zu_nsun2, zu_nrock0, zu_nrock1, zu_nrock2, zu_nrock3, zu_nrock4, zu_nrock5, zu_nrock6, zu_nrock7, zu_nrock8, zu_nrock9, zu_nrock10, zu_nrock11, zu_nrock12, zu_nrock13, zu_nrock14, zu_ntug0, zu_ntug1, zu_ntug2, zu_ntug3, zu_ntug4, zu_ntug5, zu_ntug6, zu_ntug7, zu_ntug8, zu_ntug9, zu_ntug10, zu_ntug11, zu_ntug12, zu_ntug13, zu_ntug14, zu_ntug15, zu_ntug17, zu_ntug18, zu_ntug19, zu_ntug20, zu_ntug21, zu_ntug22, zu_ncon0, zu_ncon1, zu_ncon2, zu_ncon3, zu_ncon4, zu_ncon5, zu_ncon6, zu_nwin0, zu_nwin1, zu_nwin2, zu_nwin3, zu_nwin4, zu_nwin5, zu_ncode3, zu_nrule, zu_nstock, zu_nhold, zu_nknown, zu_nord, zu_nrep, zu_ncla, zu_ntou, zu_ncel]
  · have o1 : C2 401 = C 401 := by rw [hC2, zcs_n _ _ (by decide), ho _ (by decide)]
    have o2 : zcpS C2 40 60 401 = C 401 := by rw [zcpS_ko _ (by decide), o1]
    have o3 : zcpS C2 40 60 40 = C 40 := by rw [zcpS_ko _ (by decide), hC2, zcs_n _ _ (by decide), ho _ (by decide)]
    simp +decide (disch := omega) only [e249_0, hm, e249_27, o2, o3, zpre, ite_self, Nat.reduceAdd, zs1, zs2, zs3, zI_eqb, and_self, not_true_eq_false, if_true, if_false, ite_true, ite_false, not_false_eq_true, zBP, zBZ, zisO, zisA, zlen, decide_true, decide_false, Bool.and_self, Bool.and_true, Bool.true_and, cond_true, cond_false, zBG, zBR, zBU, zBV, zinb_n, zix_n, zlA, zlB, zlM, zlN, zlX, zlI, nI_add, Nat.add_eq_zero_iff, false_and, and_false, and_true, true_and, true_or, or_true, false_or, or_false, zbool_i, zb0, zb1, zshp_0, zcs_eq, zcs_n, zcs_cs, zup_g, zup_n, zg_srock2, zg_stug2, zg_ssun, zg_ssun0, zg_srock, zg_srock0, zg_stug, zg_stug0, zg_sord, zg_sord0, zg_srep, zg_srep0, zg_scla, zg_scla0, zg_scon, zg_scon0, zg_swin, zg_swin0, zg_sleg, zg_sleg0, zg_spro, zg_sstp, zg_swrd, zu_srock2, zu_stug2, zu_ssun, zu_ssun0, zu_srock, zu_srock0, zu_stug, zu_stug0, zu_sord, zu_sord0, zu_srep, zu_srep0, zu_scla, zu_scla0, zu_scon, zu_scon0, zu_swin, zu_swin0, zu_sleg, zu_sleg0, zu_spro, zu_sstp, zu_swrd]
  · rw [hw2]
    have hz : ∀ g, ¬ (60 ≤ g ∧ g < 79) → ¬ (20 ≤ g ∧ g < 34) → zcpS C1 40 60 g = C g := fun g e1 e2 => by rw [zcpS_ko _ e1, ho _ e2]
    have hz2 : ∀ g, 20 ≤ g → g < 34 → zcpS C1 40 60 g = C1 g := fun g e1 e2 => zcpS_ko _ (by omega)
    unfold zRep
    simp (disch := omega) only [zcs_eq, zcs_n, zup_g, zup_n, hz, hz2]
    rw [ho 201 (by decide)]
    exact ⟨⟨w, hG, hS, hRR, hT, hO, hE, hC, hK, hW, hL, hP⟩, fun _ => hw, trivial, Or.inr trivial, hTp, hWt, hH0, hH1⟩
  · rw [zcs_n _ _ (by decide), zcpS_ko _ (by decide), hC2, zcs_n _ _ (by decide), ho _ (by decide)]
theorem pr_back (d L : Nat) (C : zCt) (hR : zRep C) : zPair d 146 250 [.ref 1] [.ref 201, zmk] L C := by
  obtain ⟨⟨w, hG, hS, hRR, hT, hO, hE, hC, hK, hW, hL, hP⟩, hX⟩ := id hR
  have hGe := zRG_e hG
  rintro ⟨p0, p2, r2, r3, s4⟩
  obtain ⟨hIm, hKe, hK01, hTp, hWt, hH0, hH1⟩ := id hX
  rcases hK01 with hk | hk
  · simp +decide (disch := omega) only [e146_0, e146_7, hGe, hKe, hk, zpre, ite_self, zs1, zs2, zs3, zI_eqb, and_self, not_true_eq_false, if_true, if_false, ite_true, ite_false, not_false_eq_true, zBP, zBZ, zisO, zisA, zlen, decide_true, decide_false, Bool.and_self, Bool.and_true, Bool.true_and, cond_true, cond_false, zBG, zBR, zBU, zBV, zinb_n, zix_n, zlA, zlB, zlM, zlN, zlX, zlI, nI_add, Nat.add_eq_zero_iff, false_and, and_false, and_true, true_and, true_or, or_true, false_or, or_false, zbool_i, zb0, zb1, zshp_0, zcs_eq, zcs_n, zcs_cs, zup_g, zup_n, zp2_sun, zp2_rock, zp2_tug, zp2_contract, zp2_window, zp2_code, zp2_rbody, zp2_rstock, zp2_tfree, zp2_thold, zp2_tknown, zp2_ccells, zsh2_sun, zsh2_rock, zsh2_body, zsh2_stock, zsh2_tug, zsh2_free, zsh2_hold, zsh2_known, zsh2_contract, zsh2_window, zsh2_code, zsh2_cells, zg_nsun0, zg_nsun1, zg_nsun2, zg_nrock0, zg_nrock1, zg_nrock2, zg_nrock3, zg_nrock4, zg_nrock5, zg_nrock6, zg_nrock7, zg_nrock8, zg_nrock9, zg_nrock10, zg_nrock11, zg_nrock12, zg_nrock13, zg_nrock14, zg_ntug0, zg_ntug1, zg_ntug2, zg_ntug3, zg_ntug4, zg_ntug5, zg_ntug6, zg_ntug7, zg_ntug8, zg_ntug9, zg_ntug10, zg_ntug11, zg_ntug12, zg_ntug13, zg_ntug14, zg_ntug15, zg_ntug17, zg_ntug18, zg_ntug19, zg_ntug20, zg_ntug21, zg_ntug22, zg_ncon0, zg_ncon1, zg_ncon2, zg_ncon3, zg_ncon4, zg_ncon5, zg_ncon6, zg_nwin0, zg_nwin1, zg_nwin2, zg_nwin3, zg_nwin4, zg_nwin5, zg_ncode0, zg_ncode1, zg_ncode3, zg_nrule, zg_nstock, zg_nhold, zg_nknown, zg_nord, zg_nrep, zg_ncla, zg_ntou, zg_ncel, zu_nsun0, zu_nsun1, zu_nsun2, zu_nrock0, zu_nrock1, zu_nrock2, zu_nrock3, zu_nrock4, zu_nrock5, zu_nrock6, zu_nrock7, zu_nrock8, zu_nrock9, zu_nrock10, zu_nrock11, zu_nrock12, zu_nrock13, zu_nrock14, zu_ntug0, zu_ntug1, zu_ntug2, zu_ntug3, zu_ntug4, zu_ntug5, zu_ntug6, zu_ntug7, zu_ntug8, zu_ntug9, zu_ntug10, zu_ntug11, zu_ntug12, zu_ntug13, zu_ntug14, zu_ntug15, zu_ntug17, zu_ntug18, zu_ntug19, zu_ntug20, zu_ntug21, zu_ntug22, zu_ncon0, zu_ncon1, zu_ncon2, zu_ncon3, zu_ncon4, zu_ncon5, zu_ncon6, zu_nwin0, zu_nwin1, zu_nwin2, zu_nwin3, zu_nwin4, zu_nwin5, zu_ncode3, zu_nrule, zu_nstock, zu_nhold, zu_nknown, zu_nord, zu_nrep, zu_ncla, zu_ntou, zu_ncel]
    refine ⟨_, _, (p0, p2, r2, r3, s4), rfl, ?_⟩
    simp +decide (disch := omega) only [e250_0, e250_7, hk, zpre, ite_self, Nat.reduceAdd, zs1, zs2, zs3, zI_eqb, and_self, not_true_eq_false, if_true, if_false, ite_true, ite_false, not_false_eq_true, zBP, zBZ, zisO, zisA, zlen, decide_true, decide_false, Bool.and_self, Bool.and_true, Bool.true_and, cond_true, cond_false, zBG, zBR, zBU, zBV, zinb_n, zix_n, zlA, zlB, zlM, zlN, zlX, zlI, nI_add, Nat.add_eq_zero_iff, false_and, and_false, and_true, true_and, true_or, or_true, false_or, or_false, zbool_i, zb0, zb1, zshp_0, zcs_eq, zcs_n, zcs_cs, zup_g, zup_n, zg_srock2, zg_stug2, zg_ssun, zg_ssun0, zg_srock, zg_srock0, zg_stug, zg_stug0, zg_sord, zg_sord0, zg_srep, zg_srep0, zg_scla, zg_scla0, zg_scon, zg_scon0, zg_swin, zg_swin0, zg_sleg, zg_sleg0, zg_spro, zg_sstp, zg_swrd, zu_srock2, zu_stug2, zu_ssun, zu_ssun0, zu_srock, zu_srock0, zu_stug, zu_stug0, zu_sord, zu_sord0, zu_srep, zu_srep0, zu_scla, zu_scla0, zu_scon, zu_scon0, zu_swin, zu_swin0, zu_sleg, zu_sleg0, zu_spro, zu_sstp, zu_swrd]
    exact ⟨_, zval (rfl), hR, rfl⟩
  · have hIw := hIm hk
    obtain ⟨w2, hG2, _, _, hT2, _, _, _, _, _, _, hP2⟩ := id hIw
    obtain ⟨n4, h4, e4⟩ := hG2.2.2.2.2.2.1
    obtain ⟨n5, h5, e5⟩ := hG2.2.2.2.2.2.2.1
    obtain ⟨n6, h6, e6⟩ := hG2.2.2.2.2.2.2.2.1
    obtain ⟨n7, h7, e7⟩ := hG2.2.2.2.2.2.2.2.2.1
    obtain ⟨n8, h8, e8⟩ := hG2.2.2.2.2.2.2.2.2.2.1
    obtain ⟨n9, h9, e9⟩ := hG2.2.2.2.2.2.2.2.2.2.2.1
    obtain ⟨n10, h10, e10⟩ := hG2.2.2.2.2.2.2.2.2.2.2.2.1
    obtain ⟨n11, h11, e11⟩ := hG2.2.2.2.2.2.2.2.2.2.2.2.2.1
    obtain ⟨n13, h13, e13⟩ := hG2.2.2.2.2.2.2.2.2.2.2.2.2.2.2
    have q4 := hG2.1 4 (by decide)
    have q5 := hG2.1 5 (by decide)
    have q6 := hG2.1 6 (by decide)
    have q7 := hG2.1 7 (by decide)
    have q8 := hG2.1 8 (by decide)
    have q9 := hG2.1 9 (by decide)
    have q10 := hG2.1 10 (by decide)
    have q11 := hG2.1 11 (by decide)
    have q13 := hG2.1 13 (by decide)
    have q0 := hG2.1 0 (by decide)
    have hbl : ∀ v : Int32, v = 0 ∨ v = 1 → zbool v = true := by
      rintro v (rfl | rfl) <;> rfl
    have htr : zbool (C 20 0 12) = true := hbl _ (by rw [hG2.1 12 (by decide)]; exact hG2.2.2.2.2.2.2.2.2.2.2.2.2.2.1)
    have hdk : ∀ i, i < n6 → zbool (C 23 i 14) = true := by
      intro i hi
      have q := hT2 i (by rw [e6, zix_n (by omega)]; exact hi)
      exact hbl _ (by rw [q.1 14 (by decide) (by decide) (by decide)]; exact q.2.2.2.2.2.2.2.2.2.1)
    have hu : ∀ p, p < 4 → C 20 0 (14 + p) = nI (zix (C 20 0 (14 + p))) ∧ zix (C 20 0 (14 + p)) ≤ 120 := by
      intro p hp
      obtain ⟨N, hN, hN1, hw0, hwm, hwN, hU, hrow⟩ := hP2 p hp
      rw [hU, zix_n (by omega)]
      exact ⟨rfl, hwN⟩
    obtain ⟨C1, a1, a2⟩ := T102b (d + 96) L p0 p2 r2 r3 s4 C n4 n5 n6 n10 n11 n7 n8 n9 n13 (fun p => zix (C 20 0 (14 + p))) h4 h5 h6 h10 h11 h7 h8 h9 h13 (fun p hp => (hu p hp).2) htr hdk ⟨q4.trans e4, q5.trans e5, q6.trans e6, q10.trans e10, q11.trans e11, q7.trans e7, q8.trans e8, q9.trans e9, q13.trans e13⟩ (fun p hp => (hu p hp).1)
    have hw := zcpR_b C C1 hIw n4 n5 n6 n10 n11 n7 n8 n9 n13 _ ⟨e4, e5, e6, e10, e11, e7, e8, e9, e13⟩ ⟨h4, h5, h6, h10, h11, h7, h8, h9, h13⟩ hu a2
    have ho := a2.1
    have hm := fun C => T250 (d + 100) L p0 p2 r2 r3 s4 C
    have o0 : C1 0 0 0 = C 60 0 0 := by rw [a2.2.1 0 (by decide)]; exact q0
    refine ⟨C 60 0 0, C1, (p0, p2, r2, r3, s4), ?_, zcpS C1 60 40, ?_, ?_, ?_⟩
    · simp +decide (disch := omega) only [e146_0, e146_10, e146_21, hKe, hk, a1, o0, zpre, ite_self, zs1, zs2, zs3, zI_eqb, and_self, not_true_eq_false, if_true, if_false, ite_true, ite_false, not_false_eq_true, zBP, zBZ, zisO, zisA, zlen, decide_true, decide_false, Bool.and_self, Bool.and_true, Bool.true_and, cond_true, cond_false, zBG, zBR, zBU, zBV, zinb_n, zix_n, zlA, zlB, zlM, zlN, zlX, zlI, nI_add, Nat.add_eq_zero_iff, false_and, and_false, and_true, true_and, true_or, or_true, false_or, or_false, zbool_i, zb0, zb1, zshp_0, zcs_eq, zcs_n, zcs_cs, zup_g, zup_n, zp2_sun, zp2_rock, zp2_tug, zp2_contract, zp2_window, zp2_code, zp2_rbody, zp2_rstock, zp2_tfree, zp2_thold, zp2_tknown, zp2_ccells, zsh2_sun, zsh2_rock, zsh2_body, zsh2_stock, zsh2_tug, zsh2_free, zsh2_hold, zsh2_known, zsh2_contract, zsh2_window, zsh2_code, zsh2_cells, zg_nsun0, zg_nsun1, zg_nsun2, zg_nrock0, zg_nrock1, zg_nrock2, zg_nrock3, zg_nrock4, zg_nrock5, zg_nrock6, zg_nrock7, zg_nrock8, zg_nrock9, zg_nrock10, zg_nrock11, zg_nrock12, zg_nrock13, zg_nrock14, zg_ntug0, zg_ntug1, zg_ntug2, zg_ntug3, zg_ntug4, zg_ntug5, zg_ntug6, zg_ntug7, zg_ntug8, zg_ntug9, zg_ntug10, zg_ntug11, zg_ntug12, zg_ntug13, zg_ntug14, zg_ntug15, zg_ntug17, zg_ntug18, zg_ntug19, zg_ntug20, zg_ntug21, zg_ntug22, zg_ncon0, zg_ncon1, zg_ncon2, zg_ncon3, zg_ncon4, zg_ncon5, zg_ncon6, zg_nwin0, zg_nwin1, zg_nwin2, zg_nwin3, zg_nwin4, zg_nwin5, zg_ncode0, zg_ncode1, zg_ncode3, zg_nrule, zg_nstock, zg_nhold, zg_nknown, zg_nord, zg_nrep, zg_ncla, zg_ntou, zg_ncel, zu_nsun0, zu_nsun1, zu_nsun2, zu_nrock0, zu_nrock1, zu_nrock2, zu_nrock3, zu_nrock4, zu_nrock5, zu_nrock6, zu_nrock7, zu_nrock8, zu_nrock9, zu_nrock10, zu_nrock11, zu_nrock12, zu_nrock13, zu_nrock14, zu_ntug0, zu_ntug1, zu_ntug2, zu_ntug3, zu_ntug4, zu_ntug5, zu_ntug6, zu_ntug7, zu_ntug8, zu_ntug9, zu_ntug10, zu_ntug11, zu_ntug12, zu_ntug13, zu_ntug14, zu_ntug15, zu_ntug17, zu_ntug18, zu_ntug19, zu_ntug20, zu_ntug21, zu_ntug22, zu_ncon0, zu_ncon1, zu_ncon2, zu_ncon3, zu_ncon4, zu_ncon5, zu_ncon6, zu_nwin0, zu_nwin1, zu_nwin2, zu_nwin3, zu_nwin4, zu_nwin5, zu_ncode3, zu_nrule, zu_nstock, zu_nhold, zu_nknown, zu_nord, zu_nrep, zu_ncla, zu_ntou, zu_ncel]
    · have o1 : C1 401 = C 401 := ho _ (by decide)
      have o3 : zcpS C1 60 40 40 0 0 = C 60 0 0 := by rw [show 40 = 40 + 0 from rfl, zcpS_bg _ (by decide) (zuS_0 (by decide)), ho _ (by decide)]
      simp +decide (disch := omega) only [e250_0, e250_10, hm, e250_37, o1, hk, o3, zpre, ite_self, Nat.reduceAdd, zs1, zs2, zs3, zI_eqb, and_self, not_true_eq_false, if_true, if_false, ite_true, ite_false, not_false_eq_true, zBP, zBZ, zisO, zisA, zlen, decide_true, decide_false, Bool.and_self, Bool.and_true, Bool.true_and, cond_true, cond_false, zBG, zBR, zBU, zBV, zinb_n, zix_n, zlA, zlB, zlM, zlN, zlX, zlI, nI_add, Nat.add_eq_zero_iff, false_and, and_false, and_true, true_and, true_or, or_true, false_or, or_false, zbool_i, zb0, zb1, zshp_0, zcs_eq, zcs_n, zcs_cs, zup_g, zup_n, zg_srock2, zg_stug2, zg_ssun, zg_ssun0, zg_srock, zg_srock0, zg_stug, zg_stug0, zg_sord, zg_sord0, zg_srep, zg_srep0, zg_scla, zg_scla0, zg_scon, zg_scon0, zg_swin, zg_swin0, zg_sleg, zg_sleg0, zg_spro, zg_sstp, zg_swrd, zu_srock2, zu_stug2, zu_ssun, zu_ssun0, zu_srock, zu_srock0, zu_stug, zu_stug0, zu_sord, zu_sord0, zu_srep, zu_srep0, zu_scla, zu_scla0, zu_scon, zu_scon0, zu_swin, zu_swin0, zu_sleg, zu_sleg0, zu_spro, zu_sstp, zu_swrd]
    · have hz : ∀ g, ¬ (40 ≤ g ∧ g < 59) → ¬ (0 ≤ g ∧ g < 14) → zcpS C1 60 40 g = C g := fun g e1 e2 => by rw [zcpS_bo _ e1, ho _ e2]
      have hz2 : ∀ g, g < 14 → zcpS C1 60 40 g = C1 g := fun g e2 => zcpS_bo _ (by omega)
      unfold zRep
      simp (disch := omega) only [hz, hz2]
      exact ⟨hw, hIm, hKe, Or.inr hk, hTp, hWt, hH0, hH1⟩
    · rw [zcpS_bo _ (by decide), ho _ (by decide)]
