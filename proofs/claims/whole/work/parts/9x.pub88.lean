/-! THE PROGRAM: the relation behind it, printed by wip/gen/pub88.py -/
theorem zRep_pr {C D : zCt} {p nt : Nat} {wn : Nat → Nat} (hp : p < 4) (hnt : C 40 0 6 = nI nt) (hnt4 : nt ≤ 4) (hR : zRep C) (hg : ∀ g, g ≠ 0 → g ≠ 3 → g ≠ 10 + p → g ≠ 40 → g ≠ 43 → g ≠ 50 + p → g ≠ 54 + p → g ≠ 201 → g ≠ 390 → g ≠ 401 → ¬ (405 ≤ g ∧ g ≤ 409) → D g = C g) (h0 : ∀ f, f ≠ 14 + p → D 0 0 f = C 0 0 f) (h40 : ∀ f, f ≠ 14 + p → D 40 0 f = C 40 0 f) (h3 : ∀ k f, k < nt → D 3 k f = if f = 10 ∧ C 3 k 10 = nI p then -1000000005 else C 3 k f) (h43 : ∀ k f, k < nt → D 43 k f = if f = 10 ∧ C 43 k 10 = nI p then -1 else C 43 k f) (k2 : D 201 0 2 = C 201 0 2) (k4 : D 201 0 4 = 0) (k6 : D 201 0 6 = C 201 0 6) (m2 : D 401 0 2 = C 401 0 2) (m4 : D 401 0 4 = 0) (m37 : D 401 0 37 = C 401 0 37) (hL : zLay (D 0 0 (14 + p)) (D 40 0 (14 + p)) (D (10 + p)) (D (50 + p)) (D (54 + p)) wn) : zRep D := by
  obtain ⟨⟨w, hG, hS, hRR, hT, hO, hE, hC, hK, hW, hLg, hP⟩, hIm, hKe, hK01, hTp, hWt, hH0, hH1⟩ := hR
  have z6 : zix (nI nt) = nt := zix_n (by omega)
  refine ⟨⟨fun q => if q = p then wn else w q, ?_, ?_, ?_, ?_, ?_, ?_, ?_, ?_, ?_, ?_, ?_⟩, ?_, ?_, ?_, ?_, ?_, ?_, ?_⟩
  · refine ⟨fun f hf => ?_, ?_⟩
    · rw [h0 f (by omega), h40 f (by omega)]; exact hG.1 f hf
    · have := hG.2
      simp (disch := omega) only [h40]
      exact this
  · have := hS
    simp (disch := omega) only [h40, hg]
    exact this
  · have := hRR
    simp (disch := omega) only [h40, hg]
    exact this
  · intro i hi
    rw [h40 6 (by omega), hnt, z6] at hi
    obtain ⟨t1, t2, t3, t4, t5, t6, t7, t8, t9, t10, t11, t12⟩ := hT i (by rw [hnt, z6]; exact hi)
    have a3 : ∀ f, f ≠ 10 → D 3 i f = C 3 i f := fun f hf => by rw [h3 i f hi, if_neg (fun q => hf q.1)]
    have b3 : ∀ f, f ≠ 10 → D 43 i f = C 43 i f := fun f hf => by rw [h43 i f hi, if_neg (fun q => hf q.1)]
    have hiff : C 3 i 10 = nI p ↔ C 43 i 10 = nI p := by
      rw [t3]
      unfold znn
      split
      · rename_i q
        rw [q]
        rcases (show p = 0 ∨ p = 1 ∨ p = 2 ∨ p = 3 by omega) with e | e | e | e <;> subst e <;> decide
      · exact Iff.rfl
    have hc : (C 43 i 10 = nI p ∧ D 3 i 10 = -1000000005 ∧ D 43 i 10 = -1) ∨ (¬ C 43 i 10 = nI p ∧ D 3 i 10 = C 3 i 10 ∧ D 43 i 10 = C 43 i 10) := by
      by_cases q : C 43 i 10 = nI p
      · exact Or.inl ⟨q, by rw [h3 i 10 hi, if_pos ⟨rfl, hiff.mpr q⟩], by rw [h43 i 10 hi, if_pos ⟨rfl, q⟩]⟩
      · exact Or.inr ⟨q, by rw [h3 i 10 hi, if_neg (fun y => q (hiff.mp y.2))], by rw [h43 i 10 hi, if_neg (fun y => q y.2)]⟩
    refine ⟨fun f f1 f2 f3 => by rw [a3 f f3, b3 f f3]; exact t1 f f1 f2 f3, by rw [a3 9 (by decide), b3 9 (by decide)]; exact t2, ?_, by rw [b3 0 (by decide)]; exact t4, fun f f1 f2 => by rw [b3 f (by omega)]; exact t5 f f1 f2, by rw [b3 5 (by decide)]; exact t6, by rw [b3 6 (by decide), b3 7 (by decide), b3 0 (by decide)]; exact t7, by rw [b3 8 (by decide)]; exact t8, by rw [b3 9 (by decide), h40 5 (by omega)]; exact t9, by rw [b3 14 (by decide)]; exact t10, ?_, ?_⟩
    · rcases hc with ⟨_, q1, q2⟩ | ⟨_, q1, q2⟩
      · rw [q1, q2]; rfl
      · rw [q1, q2]; exact t3
    · rcases hc with ⟨_, q1, q2⟩ | ⟨q0, q1, q2⟩
      · exact Or.inl q2
      · rw [q2, b3 15 (by decide), a3 15 (by decide)]
        rcases t11 with y | ⟨p', k, y1, y2, y3, y4, y5⟩
        · exact Or.inl y
        · have hne : p' ≠ p := fun y => q0 (by rw [y2, y])
          refine Or.inr ⟨p', k, y1, y2, y3, ?_, ?_⟩
          · show k ≤ zix (D 40 0 (14 + p'))
            rw [h40 (14 + p') (by omega)]; exact y4
          · show C 3 i 15 = nI (k + (if p' = p then wn else w p') k)
            rw [if_neg hne]; exact y5
    · rw [b3 16 (by decide), a3 22 (by decide), b3 22 (by decide)]
      rcases t12 with y | ⟨y1, y2, y3⟩
      · exact Or.inl y
      · exact Or.inr ⟨y1, fun k hk => by rw [a3 (17 + k) (by omega), b3 (17 + k) (by omega)]; exact y2 k hk, y3⟩
  · have := hO
    simp (disch := omega) only [h40, hg]
    exact this
  · have := hE
    simp (disch := omega) only [h40, hg]
    exact this
  · have := hC
    simp (disch := omega) only [h40, hg]
    exact this
  · have := hK
    simp (disch := omega) only [h40, hg]
    exact this
  · have := hW
    simp (disch := omega) only [h40, hg]
    exact this
  · have := hLg
    simp (disch := omega) only [h40, hg]
    exact this
  · intro p' hp'
    show zLay (D 0 0 (14 + p')) (D 40 0 (14 + p')) (D (10 + p' % 4)) (D (50 + p' % 4)) (D (54 + p' % 4)) (if p' = p then wn else w p')
    rw [Nat.mod_eq_of_lt hp']
    by_cases e : p' = p
    · subst e
      rw [if_pos rfl]
      exact hL
    · have := hP p' hp'
      rw [if_neg e, h0 (14 + p') (by omega), h40 (14 + p') (by omega), hg (10 + p') (by omega) (by omega) (by omega) (by omega) (by omega) (by omega) (by omega) (by omega) (by omega) (by omega) (by omega), hg (50 + p') (by omega) (by omega) (by omega) (by omega) (by omega) (by omega) (by omega) (by omega) (by omega) (by omega) (by omega), hg (54 + p') (by omega) (by omega) (by omega) (by omega) (by omega) (by omega) (by omega) (by omega) (by omega) (by omega) (by omega)]
      simp only [Nat.mod_eq_of_lt hp'] at this
      exact this
  · rw [m2]
    intro q
    have := hIm q
    simp (disch := omega) only [hg]
    exact this
  · rw [k2, m2]; exact hKe
  · rw [m2]; exact hK01
  · rw [k4, m4]
    exact ⟨⟨0, by omega, rfl⟩, rfl, fun k hk => absurd hk (by rw [show zix 0 = 0 by decide]; exact Nat.not_lt_zero k)⟩
  · rw [k6, m37, hg 385 (by omega) (by omega) (by omega) (by omega) (by omega) (by omega) (by omega) (by omega) (by omega) (by omega) (by omega), hg 419 (by omega) (by omega) (by omega) (by omega) (by omega) (by omega) (by omega) (by omega) (by omega) (by omega) (by omega)]; exact hWt
  · rw [hg 389 (by omega) (by omega) (by omega) (by omega) (by omega) (by omega) (by omega) (by omega) (by omega) (by omega) (by omega), hg 421 (by omega) (by omega) (by omega) (by omega) (by omega) (by omega) (by omega) (by omega) (by omega) (by omega) (by omega), hg 387 (by omega) (by omega) (by omega) (by omega) (by omega) (by omega) (by omega) (by omega) (by omega) (by omega) (by omega), hg 420 (by omega) (by omega) (by omega) (by omega) (by omega) (by omega) (by omega) (by omega) (by omega) (by omega) (by omega)]; exact hH0
  · rw [hg 389 (by omega) (by omega) (by omega) (by omega) (by omega) (by omega) (by omega) (by omega) (by omega) (by omega) (by omega), hg 421 (by omega) (by omega) (by omega) (by omega) (by omega) (by omega) (by omega) (by omega) (by omega) (by omega) (by omega), hg 388 (by omega) (by omega) (by omega) (by omega) (by omega) (by omega) (by omega) (by omega) (by omega) (by omega) (by omega), hg 420 (by omega) (by omega) (by omega) (by omega) (by omega) (by omega) (by omega) (by omega) (by omega) (by omega) (by omega)]; exact hH1
theorem zag_tk (G : List zUn) : zag (fun k => zwc (G.take k)) 0 0 G := by
  have key : ∀ (b a : List zUn), a ++ b = G → zag (fun k => zwc (G.take k)) a.length (zwc a) b := by
    intro b
    induction b with
    | nil =>
      intro a h
      rw [List.append_nil] at h
      subst h
      show zwc (List.take a.length a) = zwc a
      rw [List.take_length]
    | cons u r IH =>
      intro a h
      refine ⟨?_, ?_⟩
      · show zwc (List.take a.length G) = zwc a
        rw [← h, List.take_left]
      · have := IH (a ++ [u]) (by rw [List.append_assoc]; exact h)
        rw [List.length_append, zwc_app] at this
        exact this
  exact key G [] rfl
theorem zLay_pr {A S4 W2 : zGp} {S W : Nat → Int32} {G : List zUn} {w : Nat → Nat} (ha : zag w 0 0 G) (hv : zgv 0 0 G) (hl : G.length + zwc G ≤ 120) (hr : zgr A 0 G) (hs : zgs S W 0 0 G) (h4 : ∀ k f, k < G.length → f < 4 → S4 k f = S (4 * k + f)) (h2 : ∀ j f, j < zwc G → f < 2 → W2 j f = W (2 * j + f)) : zLay (nI (G.length + zwc G)) (nI G.length) A S4 W2 w := by
  have he := zag_e ha
  rw [Nat.zero_add, Nat.zero_add] at he
  have hw := fun k hk => zuWd (N := 0) (j := 0) hr hs ha k (Nat.zero_le _) (by rw [Nat.zero_add]; exact hk)
  have hmono : ∀ m k, k + m = G.length → w k ≤ zwc G := by
    intro m
    induction m with
    | zero => intro k hk; rw [show k = G.length by omega, he]; exact Nat.le_refl _
    | succ m IH => intro k hk; exact Nat.le_trans (hw k (by omega)).1 (IH (k + 1) (by omega))
  refine ⟨G.length, rfl, by omega, zag_0 ha, fun k hk => (hw k hk).1, by rw [he]; exact hl, by rw [he], fun k hk => ⟨fun j j1 j2 => ?_, ?_⟩⟩
  · have hj : j < zwc G := by have := hmono (G.length - (k + 1)) (k + 1) (by omega); omega
    rw [h2 j 0 hj (by decide), h2 j 1 hj (by decide)]
    exact (hw k hk).2 j j1 j2
  · have hz := hv A S W w G.length hr hs ha (by omega) k (Nat.zero_le _) (by omega)
    have hb : w (k + 1) ≤ zwc G := hmono (G.length - (k + 1)) (k + 1) (by omega)
    have hdp : ∀ m j, j + m ≤ zwc G → zdp W2 m j 0 = zdp (zW2 W) m j 0 := fun m j hj => zdp_c m j 0 (fun i hi => h2 i 0 (by omega) (by decide))
    have s0 : S4 k 0 = zS4 S k 0 := h4 k 0 hk (by decide)
    have s1 : S4 k 1 = zS4 S k 1 := h4 k 1 hk (by decide)
    have s2 : S4 k 2 = zS4 S k 2 := h4 k 2 hk (by decide)
    have s3 : S4 k 3 = zS4 S k 3 := h4 k 3 hk (by decide)
    have hk1 := (hw k hk).1
    rcases hz with ⟨o, y1, y2, y3, y4⟩ | ⟨y1, y2, y3, y4⟩ | ⟨y1, y2, y3, y4, m, y5, y6, y7, y8, y9⟩ | ⟨y1, y2, y3, y4, y5⟩ | ⟨y1, y2, y3, y4, y5, y6⟩ | ⟨y1, y2, y3, tg, y4, y5, y6, y7⟩
    · exact Or.inl ⟨o, y1, y2, s0.trans y3, y4⟩
    · exact Or.inr (Or.inl ⟨s0.trans y1, y2, by rw [s1]; exact y3, y4⟩)
    · exact Or.inr (Or.inr (Or.inl ⟨s0.trans y1, y2, s1.trans y3, s3.trans y4, m, y5, y6, s2.trans y7, by rw [hdp _ _ (by omega)]; exact y8, by rw [hdp _ _ (by omega)]; exact y9⟩))
    · exact Or.inr (Or.inr (Or.inr (Or.inl ⟨s0.trans y1, y2, s1.trans y3, s2.trans y4, by rw [hdp _ _ (by omega)]; exact y5⟩)))
    · exact Or.inr (Or.inr (Or.inr (Or.inr (Or.inl ⟨s0.trans y1, y2, s1.trans y3, s2.trans y4, by rw [hdp _ _ (by omega)]; exact y5, by rw [s3]; exact y6⟩))))
    · exact Or.inr (Or.inr (Or.inr (Or.inr (Or.inr ⟨s0.trans y1, y2, y3, tg, y4, s1.trans y5, y6, y7.imp id (fun y => ⟨y.1, by rw [h4 tg 0 (by omega) (by decide)]; exact y.2⟩)⟩))))

