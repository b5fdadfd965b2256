/-! THE PROGRAM: what the units are worth, printed by wip/gen/pub83.py -/
def zS4 (S : Nat → Int32) : zGp := fun k f => S (4 * k + f)
def zW2 (W : Nat → Int32) : zGp := fun j f => W (2 * j + f)
def zag (w : Nat → Nat) : Nat → Nat → List zUn → Prop
  | N, j, [] => w N = j
  | N, j, u :: G => w N = j ∧ zag w (N + 1) (j + u.1.length) G
theorem zag_0 {w : Nat → Nat} : ∀ {G : List zUn} {N j : Nat}, zag w N j G → w N = j := by
  intro G
  cases G with
  | nil => intro N j h; exact h
  | cons u r => intro N j h; exact h.1
theorem zag_e {w : Nat → Nat} : ∀ {G : List zUn} {N j : Nat}, zag w N j G → w (N + G.length) = j + zwc G := by
  intro G
  induction G with
  | nil => intro N j h; exact h
  | cons u r IH =>
    intro N j h
    have := IH h.2
    rw [List.length_cons, zwc, show N + (r.length + 1) = N + 1 + r.length by omega, this]
    omega
theorem zag_app {w : Nat → Nat} : ∀ {a b : List zUn} {N j : Nat}, zag w N j (a ++ b) → zag w N j a ∧ zag w (N + a.length) (j + zwc a) b := by
  intro a
  induction a with
  | nil => intro b N j h; exact ⟨zag_0 h, h⟩
  | cons u r IH =>
    intro b N j h
    have := IH h.2
    rw [List.length_cons, zwc, show N + (r.length + 1) = N + 1 + r.length by omega, show j + (u.1.length + zwc r) = j + u.1.length + zwc r by omega]
    exact ⟨⟨h.1, this.1⟩, this.2⟩
theorem zdp_l {W : Nat → Int32} : ∀ (ws : List (Int32 × Int32)) (j s : Nat), zmr W j ws → zdp (zW2 W) ws.length j s = zdpl ws s := by
  intro ws
  induction ws with
  | nil => intro j s _; rfl
  | cons q r IH =>
    intro j s h
    rw [List.length_cons, zdp, zdpl, IH (j + 1) (s + 1) h.2.2, IH (j + 1) s h.2.2, IH (j + 1) (s - 1) h.2.2, show zW2 W j 0 = q.1 from h.1]
theorem zrw_i {A : zGp} {W : Nat → Int32} : ∀ {ws : List (Int32 × Int32)} {U j : Nat}, zrw A U ws → zmr W j ws → ∀ i, i < ws.length → zwr (A (U + i) 0) (A (U + i) 1) (zW2 W (j + i) 0) (zW2 W (j + i) 1) := by
  intro ws
  induction ws with
  | nil => intro U j _ _ i hi; exact absurd hi (Nat.not_lt_zero _)
  | cons q r IH =>
    intro U j h1 h2 i hi
    cases i with
    | zero =>
      rw [Nat.add_zero U, Nat.add_zero j, show zW2 W j 0 = q.1 from h2.1, show zW2 W j 1 = q.2 from h2.2.1]
      exact h1.1
    | succ i =>
      have := IH h1.2 h2.2.2 i (by rw [List.length_cons] at hi; omega)
      rw [show U + (i + 1) = U + 1 + i by omega, show j + (i + 1) = j + 1 + i by omega]
      exact this
/-- the words of all units -/
theorem zuWd {A : zGp} {S W : Nat → Int32} {w : Nat → Nat} : ∀ {G : List zUn} {N j : Nat}, zgr A (N + j) G → zgs S W N j G → zag w N j G → ∀ k, N ≤ k → k < N + G.length → w k ≤ w (k + 1) ∧ ∀ i, w k ≤ i → i < w (k + 1) → zwr (A (k + i) 0) (A (k + i) 1) (zW2 W i 0) (zW2 W i 1) := by
  intro G
  induction G with
  | nil => intro N j _ _ _ k h1 h2; rw [List.length_nil] at h2; omega
  | cons u r IH =>
    intro N j hr hs ha k h1 h2
    by_cases e : k = N
    · subst e
      have e0 := ha.1
      have e1 := zag_0 ha.2
      refine ⟨by omega, fun i hi1 hi2 => ?_⟩
      have := zrw_i hr.1 hs.2.1 (i - j) (by omega)
      rw [show k + j + (i - j) = k + i by omega, show j + (i - j) = i by omega] at this
      exact this
    · rw [List.length_cons] at h2
      exact IH (N := N + 1) (j := j + u.1.length) (by have := hr.2.2.2; rw [show N + j + u.1.length + 1 = N + 1 + (j + u.1.length) by omega] at this; exact this) hs.2.2 ha.2 k (by omega) (by omega)
def zgv (N j : Nat) (G : List zUn) : Prop := ∀ (A : zGp) (S W : Nat → Int32) (w : Nat → Nat) (M : Nat), zgr A (N + j) G → zgs S W N j G → zag w N j G → N + G.length ≤ M → ∀ k, N ≤ k → k < N + G.length → zsr (zS4 S) (zW2 W) w M k (A (k + w (k + 1)) 0) (A (k + w (k + 1)) 1)
theorem zgv_0 (N j : Nat) : zgv N j [] := by
  intro A S W w M _ _ _ _ k h1 h2
  rw [List.length_nil] at h2
  omega
theorem zgv_app {N j : Nat} {a b : List zUn} (h1 : zgv N j a) (h2 : zgv (N + a.length) (j + zwc a) b) : zgv N j (a ++ b) := by
  intro A S W w M hr hs ha hM k k1 k2
  rw [List.length_append] at hM k2
  have r2 := zgr_app.mp hr
  have s2 := zgs_app.mp hs
  have a2 := zag_app ha
  by_cases e : k < N + a.length
  · exact h1 A S W w M r2.1 s2.1 a2.1 (by omega) k k1 e
  · have r3 := r2.2
    rw [show N + j + (a.length + zwc a) = N + a.length + (j + zwc a) by omega] at r3
    exact h2 A S W w M r3 s2.2 a2.2 (by omega) k (by omega) (by omega)
theorem zgv_c {N j : Nat} {u : zUn} {G : List zUn} (h1 : ∀ (A : zGp) (S W : Nat → Int32) (w : Nat → Nat) (M : Nat), zgr A (N + j) (u :: G) → zgs S W N j (u :: G) → zag w N j (u :: G) → N + (G.length + 1) ≤ M → zS4 S N 0 = u.2.1.1 → zS4 S N 1 = u.2.1.2.1 → zS4 S N 2 = u.2.1.2.2.1 → zS4 S N 3 = u.2.1.2.2.2 → w N = j → w (N + 1) = j + u.1.length → zmr W j u.1 → A (N + w (N + 1)) 0 = u.2.2.1 → A (N + w (N + 1)) 1 = u.2.2.2 → zsr (zS4 S) (zW2 W) w M N (A (N + w (N + 1)) 0) (A (N + w (N + 1)) 1)) (h2 : zgv (N + 1) (j + u.1.length) G) : zgv N j (u :: G) := by
  intro A S W w M hr hs ha hM k k1 k2
  rw [List.length_cons] at hM k2
  by_cases e : k = N
  · subst e
    have e0 := ha.1
    have e1 := zag_0 ha.2
    refine h1 A S W w M hr hs ha hM hs.1.1 hs.1.2.1 hs.1.2.2.1 hs.1.2.2.2 e0 e1 hs.2.1 ?_ ?_
    · rw [e1, ← Nat.add_assoc]; exact hr.2.1
    · rw [e1, ← Nat.add_assoc]; exact hr.2.2.1
  · have r3 := hr.2.2.2
    rw [show N + j + u.1.length + 1 = N + 1 + (j + u.1.length) by omega] at r3
    exact h2 A S W w M r3 hs.2.2 ha.2 (by omega) k (by omega) (by omega)

theorem V_simple (N j v : Nat) (h1 : 2 ≤ v) (h2 : v ≤ 10) : zgv N j [([], (nI (v + 1), 0, 0, 0), (nI v, 0))] := by
  refine zgv_c (fun A S W w M hr hs ha hM c0 c1 c2 c3 w0 w1 mw a0 a1 => ?_) (zgv_0 _ _)
  exact Or.inl ⟨v + 1, by omega, by omega, c0, a0, by rw [w0, w1]; rfl⟩
theorem V_aim (N j : Nat) (v : Int32) : zgv N j [([], (1, v, 0, 0), (0, v))] := by
  refine zgv_c (fun A S W w M hr hs ha hM c0 c1 c2 c3 w0 w1 mw a0 a1 => ?_) (zgv_0 _ _)
  exact Or.inr (Or.inl ⟨c0, a0, a1.trans c1.symm, by rw [w0, w1]; rfl⟩)
theorem V_until (N j : Nat) {ws : List (Int32 × Int32)} (hd : zdpl ws 0 = some 1) : zgv N j [(ws, (12, nI j, nI (j + ws.length), 0), (11, 0))] := by
  refine zgv_c (fun A S W w M hr hs ha hM c0 c1 c2 c3 w0 w1 mw a0 a1 => ?_) (zgv_0 _ _)
  refine Or.inr (Or.inr (Or.inr (Or.inl ⟨c0, a0, by rw [w0]; exact c1, by rw [w1]; exact c2, ?_⟩)))
  rw [w1, w0]
  show zdp _ (j + ws.length - j) j 0 = _
  rw [Nat.add_sub_cancel_left, zdp_l ws j 0 mw]
  exact hd
theorem V_burn (N j : Nat) {ws w2 : List (Int32 × Int32)} (hd : zdpl ws 0 = some 1) (hd2 : zdpl w2 0 = some 1) : zgv N j [(ws ++ w2, (2, nI j, nI (j + ws.length), nI (j + (ws.length + w2.length))), (1, 0))] := by
  refine zgv_c (fun A S W w M hr hs ha hM c0 c1 c2 c3 w0 w1 mw a0 a1 => ?_) (zgv_0 _ _)
  have w1 : w (N + 1) = j + (ws.length + w2.length) := by rw [w1, List.length_append]
  have mw := zmr_app.mp mw
  refine Or.inr (Or.inr (Or.inl ⟨c0, a0, by rw [w0]; exact c1, by rw [w1]; exact c3, j + ws.length, by omega, by omega, c2, ?_, ?_⟩))
  · rw [w0, Nat.add_sub_cancel_left, zdp_l ws j 0 mw.1]
    exact hd
  · rw [w1, show j + (ws.length + w2.length) - (j + ws.length) = w2.length by omega, zdp_l w2 _ 0 mw.2]
    exact hd2
theorem V_13 {N j : Nat} {ws : List (Int32 × Int32)} {G : List zUn} {row : Int32 × Int32} {tg wt : Nat} (hop : row.1 = 12 ∨ row.1 = 13) (harg : row.2 = nI (tg + wt)) (hd : zdpl ws 0 = some 1) (htg : tg ≤ N + (G.length + 1)) (hag : ∀ w, zag w N j ((ws, (13, nI j, nI (j + ws.length), nI tg), row) :: G) → w tg = wt) (h2 : zgv (N + 1) (j + ws.length) G) : zgv N j ((ws, (13, nI j, nI (j + ws.length), nI tg), row) :: G) := by
  refine zgv_c (fun A S W w M hr hs ha hM c0 c1 c2 c3 w0 w1 mw a0 a1 => ?_) h2
  refine Or.inr (Or.inr (Or.inr (Or.inr (Or.inl ⟨c0, by rw [a0]; exact hop, by rw [w0]; exact c1, by rw [w1]; exact c2, ?_, tg, by omega, c3, ?_⟩))))
  · rw [w1, w0]
    show zdp _ (j + ws.length - j) j 0 = _
    rw [Nat.add_sub_cancel_left, zdp_l ws j 0 mw]
    exact hd
  · rw [a1, hag w ha]; exact harg
theorem V_if {N j : Nat} {ws : List (Int32 × Int32)} {G1 : List zUn} (hd : zdpl ws 0 = some 1) (h2 : zgv (N + 1) (j + ws.length) G1) : zgv N j ((ws, (13, nI j, nI (j + ws.length), nI (N + 1 + G1.length)), (12, nI (N + 1 + G1.length + (j + ws.length + zwc G1)))) :: G1) :=
  V_13 (Or.inl rfl) rfl hd (by omega) (fun w hw => zag_e hw.2) h2
theorem V_while {N j : Nat} {ws : List (Int32 × Int32)} {G1 : List zUn} (hd : zdpl ws 0 = some 1) (h2 : zgv (N + 1) (j + ws.length) G1) : zgv N j ((ws, (13, nI j, nI (j + ws.length), nI (N + 1 + G1.length + 1)), (13, nI (N + 1 + G1.length + 1 + (j + ws.length + zwc G1)))) :: G1 ++ [(([] : List (Int32 × Int32)), ((14 : Int32), nI N, (0 : Int32), (0 : Int32)), ((15 : Int32), nI (N + j)))]) := by
  intro A S W w M hr hs ha hM k k1 k2
  by_cases e : k = N + 1 + G1.length
  · subst e
    have r2 := (zgr_app.mp hr).2
    have s2 := (zgs_app.mp hs).2
    have a2 := (zag_app ha).2
    have c0 : zS4 S N 0 = 13 := hs.1.1
    have w0 : w N = j := ha.1
    have l1 : N + (((ws, ((13 : Int32), nI j, nI (j + ws.length), nI (N + 1 + G1.length + 1)), ((13 : Int32), nI (N + 1 + G1.length + 1 + (j + ws.length + zwc G1)))) : zUn) :: G1).length = N + 1 + G1.length := by rw [List.length_cons]; omega
    have l2 : j + zwc (((ws, ((13 : Int32), nI j, nI (j + ws.length), nI (N + 1 + G1.length + 1)), ((13 : Int32), nI (N + 1 + G1.length + 1 + (j + ws.length + zwc G1)))) : zUn) :: G1) = j + ws.length + zwc G1 := by show j + (ws.length + zwc G1) = _; omega
    rw [l1, l2] at s2 a2
    have l3 : N + j + ((((ws, ((13 : Int32), nI j, nI (j + ws.length), nI (N + 1 + G1.length + 1)), ((13 : Int32), nI (N + 1 + G1.length + 1 + (j + ws.length + zwc G1)))) : zUn) :: G1).length + zwc (((ws, ((13 : Int32), nI j, nI (j + ws.length), nI (N + 1 + G1.length + 1)), ((13 : Int32), nI (N + 1 + G1.length + 1 + (j + ws.length + zwc G1)))) : zUn) :: G1)) = N + 1 + G1.length + (j + ws.length + zwc G1) := by rw [List.length_cons]; show N + j + (G1.length + 1 + (ws.length + zwc G1)) = _; omega
    rw [l3] at r2
    have wk := a2.1
    have wk1 : w (N + 1 + G1.length + 1) = j + ws.length + zwc G1 := a2.2
    refine Or.inr (Or.inr (Or.inr (Or.inr (Or.inr ⟨s2.1.1, ?_, by rw [wk, wk1], N, ?_, s2.1.2.1, ?_, Or.inr ⟨by omega, c0⟩⟩))))
    · rw [wk1]; exact r2.2.1
    · rw [List.length_append, List.length_cons, List.length_cons] at hM; omega
    · rw [wk1, w0]; exact r2.2.2.1
  · have hl : k < N + (((ws, ((13 : Int32), nI j, nI (j + ws.length), nI (N + 1 + G1.length + 1)), ((13 : Int32), nI (N + 1 + G1.length + 1 + (j + ws.length + zwc G1)))) : zUn) :: G1).length := by rw [List.length_append, List.length_cons, List.length_cons, List.length_nil] at k2; rw [List.length_cons]; omega
    rw [List.length_append] at hM
    by_cases e0 : k = N
    · subst e0
      have hM : k + (G1.length + 1) + 1 ≤ M := by rw [List.length_cons, List.length_cons, List.length_nil] at hM; omega
      have a2 := (zag_app ha).2
      have wk1 : w (k + 1 + G1.length + 1) = j + ws.length + zwc G1 := by
        have := a2.2
        rw [List.length_cons] at this
        have e9 : w (k + (G1.length + 1) + 1) = j + zwc (((ws, ((13 : Int32), nI j, nI (j + ws.length), nI (k + 1 + G1.length + 1)), ((13 : Int32), nI (k + 1 + G1.length + 1 + (j + ws.length + zwc G1)))) : zUn) :: G1) := this
        rw [show k + 1 + G1.length + 1 = k + (G1.length + 1) + 1 by omega, e9]
        show j + (ws.length + zwc G1) = _
        omega
      have w0 : w k = j := ha.1
      have w1 : w (k + 1) = j + ws.length := zag_0 ha.2
      have a0 : A (k + w (k + 1)) 0 = 13 := by rw [w1, ← Nat.add_assoc]; exact hr.2.1
      have a1 : A (k + w (k + 1)) 1 = nI (k + 1 + G1.length + 1 + (j + ws.length + zwc G1)) := by rw [w1, ← Nat.add_assoc]; exact hr.2.2.1
      refine Or.inr (Or.inr (Or.inr (Or.inr (Or.inl ⟨hs.1.1, Or.inr a0, by rw [w0]; exact hs.1.2.1, by rw [w1]; exact hs.1.2.2.1, ?_, k + 1 + G1.length + 1, by omega, hs.1.2.2.2, ?_⟩))))
      · rw [w1, w0, Nat.add_sub_cancel_left, zdp_l ws j 0 hs.2.1]
        exact hd
      · rw [a1, wk1]
    · have r2 := (zgr_app.mp hr).1.2.2.2
      have s2 := (zgs_app.mp hs).1.2.2
      have a2 := (zag_app ha).1.2
      rw [List.length_cons] at hl hM
      have r3 : zgr A (N + 1 + (j + ws.length)) G1 := by rw [show N + 1 + (j + ws.length) = N + j + ws.length + 1 by omega]; exact r2
      exact h2 A S W w M r3 s2 a2 (by omega) k (by omega) (by omega)

theorem V_else {N j : Nat} {ws : List (Int32 × Int32)} {G1 G2 : List zUn} (hd : zdpl ws 0 = some 1) (h2 : zgv (N + 1) (j + ws.length) G1) (h3 : zgv (N + 1 + G1.length + 1) (j + ws.length + zwc G1) G2) : zgv N j ((ws, (13, nI j, nI (j + ws.length), nI (N + 1 + G1.length + 1)), (12, nI (N + 1 + G1.length + 1 + (j + ws.length + zwc G1)))) :: G1 ++ (([] : List (Int32 × Int32)), ((14 : Int32), nI (N + 1 + G1.length + 1 + G2.length), (0 : Int32), (0 : Int32)), ((15 : Int32), nI ((N + 1 + G1.length + 1 + G2.length) + (j + ws.length + zwc G1 + zwc G2)))) :: G2) := by
  rw [List.cons_append]
  refine V_13 (Or.inl rfl) rfl hd (by rw [List.length_append, List.length_cons]; omega) (fun w hw => ?_) (zgv_app h2 (zgv_c (fun A S W w M hr hs ha hM c0 c1 c2 c3 w0 w1 mw a0 a1 => ?_) h3))
  · exact zag_0 (zag_app hw.2).2.2
  · refine Or.inr (Or.inr (Or.inr (Or.inr (Or.inr ⟨c0, a0, by rw [w0, w1]; rfl, N + 1 + G1.length + 1 + G2.length, by omega, c1, ?_, Or.inl (by omega)⟩))))
    rw [a1, zag_e ha.2]
    rfl

