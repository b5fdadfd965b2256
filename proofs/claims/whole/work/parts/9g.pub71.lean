/-! THE PROGRAM: S in the class (1), printed by wip/gen/pub71.py -/
/-- an S: its words, its step in the model, its row in the class -/
abbrev zUn : Type := List (Int32 × Int32) × (Int32 × Int32 × Int32 × Int32) × (Int32 × Int32)
def zwc : List zUn → Nat
  | [] => 0
  | u :: G => u.1.length + zwc G
def zgr (A : zGp) : Nat → List zUn → Prop
  | _, [] => True
  | U, u :: G => zrw A U u.1 ∧ A (U + u.1.length) 0 = u.2.2.1 ∧ A (U + u.1.length) 1 = u.2.2.2 ∧ zgr A (U + u.1.length + 1) G
theorem zwc_app (a b : List zUn) : zwc (a ++ b) = zwc a + zwc b := by
  induction a with
  | nil => simp only [List.nil_append, zwc]; omega
  | cons u r IH => simp only [List.cons_append, zwc, IH]; omega
theorem zrw_c2 {A B : zGp} : ∀ {a : List (Int32 × Int32)} {U : Nat}, (∀ i f, U ≤ i → i < U + a.length → B i f = A i f) → zrw A U a → zrw B U a := by
  intro a
  induction a with
  | nil => intro U _ _; trivial
  | cons q r IH =>
    intro U hg h
    obtain ⟨h1, h3⟩ := h
    simp only [List.length_cons] at hg
    refine ⟨?_, IH (fun i f hi hi2 => hg i f (by omega) (by omega)) h3⟩
    rw [hg U 0 (by omega) (by omega), hg U 1 (by omega) (by omega)]
    exact h1
theorem zgr_c {A B : zGp} : ∀ {G : List zUn} {U : Nat}, (∀ i f, U ≤ i → i < U + (G.length + zwc G) → B i f = A i f) → zgr A U G → zgr B U G := by
  intro G
  induction G with
  | nil => intro U _ _; trivial
  | cons u r IH =>
    intro U hg h
    obtain ⟨h1, h2, h3, h4⟩ := h
    simp only [List.length_cons, zwc] at hg
    refine ⟨zrw_c2 (fun i f hi hi2 => hg i f hi (by omega)) h1, ?_, ?_, IH (fun i f hi hi2 => hg i f (by omega) (by omega)) h4⟩
    · rw [hg _ 0 (by omega) (by omega)]; exact h2
    · rw [hg _ 1 (by omega) (by omega)]; exact h3
theorem zgr_app {A : zGp} : ∀ {a b : List zUn} {U : Nat}, zgr A U (a ++ b) ↔ zgr A U a ∧ zgr A (U + (a.length + zwc a)) b := by
  intro a
  induction a with
  | nil => intro b U; exact ⟨fun h => ⟨trivial, h⟩, fun h => h.2⟩
  | cons u r IH =>
    intro b U
    have e : U + u.1.length + 1 + (r.length + zwc r) = U + ((u :: r).length + zwc (u :: r)) := by simp only [List.length_cons, zwc]; omega
    constructor
    · rintro ⟨h1, h2, h3, h4⟩
      have := IH.mp h4
      rw [e] at this
      exact ⟨⟨h1, h2, h3, this.1⟩, this.2⟩
    · rintro ⟨⟨h1, h2, h3, h4⟩, h5⟩
      rw [← e] at h5
      exact ⟨h1, h2, h3, IH.mpr ⟨h4, h5⟩⟩
/-- a row leads elsewhere -/
theorem zgr_pt {A : zGp} {Ga Gb : List zUn} {U row : Nat} {ws : List (Int32 × Int32)} {st : Int32 × Int32 × Int32 × Int32} {o a b : Int32} (h : zgr A U (Ga ++ (ws, st, (o, a)) :: Gb)) (hr : row = U + (Ga.length + zwc Ga) + ws.length) : zgr (zup A row 1 b) U (Ga ++ (ws, st, (o, b)) :: Gb) := by
  obtain ⟨h1, h2, h3, h4, h5⟩ := zgr_app.mp h
  dsimp only at h2 h3 h4 h5
  refine zgr_app.mpr ⟨zgr_c (fun i f _ hi => zup_n _ _ (by omega)) h1, zrw_c2 (fun i f _ hi => zup_n _ _ (by dsimp only at hi; omega)) h2, ?_, ?_, zgr_c (fun i f hi _ => zup_n _ _ (by dsimp only at hi; omega)) h5⟩
  · dsimp only
    rw [zup_n _ _ (by omega)]; exact h3
  · dsimp only
    rw [← hr, zup_g]
def zCa (p : Nat) (T : Nat → Nat) (n U t c : Nat) (C C' : zCt) (G : List zUn) (x' : zLx) : Prop := zPC T n C' x' ∧ zFC p C C' ∧ (∀ f, f ≠ 3 → f ≠ 4 → f ≠ 5 → f ≠ 9 → C' 390 0 f = C 390 0 f) ∧ C' 390 0 9 = nI (t + c) ∧ C' 0 0 (14 + p) = nI (U + (G.length + zwc G)) ∧ (∀ i f, i < U → C' (10 + p) i f = C (10 + p) i f) ∧ zgr (C' (10 + p)) U G
theorem zCa_t {p : Nat} {T : Nat → Nat} {n U t c1 c2 : Nat} {A B C : zCt} {G1 G2 : List zUn} {x1 x2 : zLx} (h1 : zCa p T n U t c1 A B G1 x1) (h2 : zCa p T n (U + (G1.length + zwc G1)) (t + c1) c2 B C G2 x2) : zCa p T n U t (c1 + c2) A C (G1 ++ G2) x2 := by
  obtain ⟨a1, a2, a3, a4, a5, a6, a7⟩ := h1
  obtain ⟨b1, b2, b3, b4, b5, b6, b7⟩ := h2
  refine ⟨b1, zFC_t a2 b2, fun f c d e g => (b3 f c d e g).trans (a3 f c d e g), by rw [b4, Nat.add_assoc], ?_, fun i f hi => (b6 i f (by omega)).trans (a6 i f hi), ?_⟩
  · rw [b5, List.length_append, zwc_app]
    congr 1
    omega
  · exact zgr_app.mpr ⟨zgr_c (fun i f _ hi => b6 i f hi) a7, b7⟩
theorem zCa_k {p : Nat} {T : Nat → Nat} {n U t : Nat} {A B : zCt} {x1 : zLx} (h : zCk p T n U A B [] x1) (ht : A 390 0 9 = nI t) : zCa p T n U t 0 A B [] x1 := by
  obtain ⟨a1, a2, a3, a4, a5, a6⟩ := h
  exact ⟨a1, a2, fun f c d e _ => a3 f c d e, by rw [a3 9 (by decide) (by decide) (by decide)]; exact ht, a4, a5, trivial⟩
/-- words, then the row of their S -/
theorem zCa_un {p : Nat} (hp : p < 4) {T : Nat → Nat} {n U t : Nat} {C C1 : zCt} {ws : List (Int32 × Int32)} {x1 : zLx} (h : zCk p T n U C C1 ws x1) (ht : C 390 0 9 = nI t) (st : Int32 × Int32 × Int32 × Int32) (o a : Int32) : zCa p T n U t 0 C (zem p C1 (U + ws.length) o a) [(ws, st, (o, a))] x1 := by
  obtain ⟨a1, a2, a3, a4, a5, a6⟩ := h
  unfold zem
  refine ⟨zPC_g a1 ?_ (fun f _ => ?_), zFC_t a2 ⟨fun g a b c => ?_, fun f a => ?_⟩, fun f a b c d => ?_, ?_, ?_, fun i f hi => ?_, zrw_c2 (fun i f _ hi => ?_) a6, ?_, ?_, trivial⟩
  · rw [zcs_n _ _ (by omega), zcs_n _ _ (by omega)]
  · rw [zcs_n _ _ (by omega), zcs_n _ _ (by omega)]
  · rw [zcs_n _ _ c, zcs_n _ _ a]
  · rw [zcs_n _ _ (by omega), zcs_eq, zup_n _ _ (by omega)]
  · rw [zcs_n _ _ (by omega), zcs_n _ _ (by omega)]; exact a3 f a b c
  · rw [zcs_n _ _ (by omega), zcs_n _ _ (by omega), a3 9 (by decide) (by decide) (by decide)]; exact ht
  · rw [zcs_n _ _ (by omega), zcs_eq, zup_g]
    congr 1
    simp only [List.length_cons, List.length_nil, zwc]
    omega
  · rw [zcs_eq, zup_n _ _ (by omega), zup_n _ _ (by omega)]; exact a5 i f hi
  · dsimp only at hi
    rw [zcs_eq, zup_n _ _ (by omega), zup_n _ _ (by omega)]
  · dsimp only
    rw [zcs_eq, zup_n _ _ (by omega), zup_g]
  · dsimp only
    rw [zcs_eq, zup_g]
theorem zCa_pt {p : Nat} (hp : p < 4) {T : Nat → Nat} {n U t c row : Nat} {C C' : zCt} {Ga Gb : List zUn} {ws : List (Int32 × Int32)} {st : Int32 × Int32 × Int32 × Int32} {o a : Int32} {x' : zLx} (h : zCa p T n U t c C C' (Ga ++ (ws, st, (o, a)) :: Gb) x') (hr : row = U + (Ga.length + zwc Ga) + ws.length) (b : Int32) : zCa p T n U t c C (zcs C' (10 + p) (zup (C' (10 + p)) row 1 b)) (Ga ++ (ws, st, (o, b)) :: Gb) x' := by
  obtain ⟨a1, a2, a3, a4, a5, a6, a7⟩ := h
  refine ⟨zPC_g a1 (by rw [zcs_n _ _ (by omega)]) (fun f _ => by rw [zcs_n _ _ (by omega)]), zFC_t a2 ⟨fun g a b c => by rw [zcs_n _ _ c], fun f _ => by rw [zcs_n _ _ (by omega)]⟩, fun f a b c d => by rw [zcs_n _ _ (by omega)]; exact a3 f a b c d, by rw [zcs_n _ _ (by omega)]; exact a4, ?_, fun i f hi => ?_, ?_⟩
  · rw [zcs_n _ _ (by omega), a5, List.length_append, List.length_append, zwc_app, zwc_app]
    rfl
  · rw [zcs_eq, zup_n _ _ (by omega)]; exact a6 i f hi
  · rw [zcs_eq]; exact zgr_pt a7 hr
theorem C33 (d L p r2 r3 s4 : Nat) (hp : p < 4) (C : zCt) {row U : Nat} (hr : row < U) (hU1 : U ≤ 120) (hU : C 0 0 (14 + p) = nI U) : zR (d + 1) 33 0 [.ref 190, .int (nI row)] [] (zZ L, zI C, zPd 184 (85 + 2 * p) r2 r3 s4) = some (none, (zZ L, zI (zcs C (10 + p) (zup (C (10 + p)) row 1 (nI U))), zPd 184 (85 + 2 * p) r2 r3 s4)) := by
  have t1 := C42_1 d L p r2 r3 s4 hp C hr hU1 hU (nI U)
  have t0 := T43c d L 184 (85 + 2 * p) r2 r3 s4 C hp
  rw [hU] at t0
  simp +decide (disch := omega) only [e33_0, e33_13, e33_16, t0, t1, zpre, ite_self, zs1, zs2, zs3, zI_eqb, and_self, not_true_eq_false, if_true, if_false, ite_true, ite_false, not_false_eq_true, zBP, zBZ, zisO, zisA, zlen, decide_true, decide_false, Bool.and_self, Bool.and_true, Bool.true_and, cond_true, cond_false, zBG, zBR, zBU, zBV, zinb_n, zix_n, zlA, zlB, zlM, zlN, zlX, zlI, nI_add, Nat.add_eq_zero_iff, false_and, and_false, and_true, true_and, true_or, or_true, false_or, or_false, zbool_i, zb0, zb1, zshp_0, zcs_eq, zcs_n, zcs_cs, zup_g, zup_n, zp2_sun, zp2_rock, zp2_tug, zp2_contract, zp2_window, zp2_code, zp2_rbody, zp2_rstock, zp2_tfree, zp2_thold, zp2_tknown, zp2_ccells, zsh2_sun, zsh2_rock, zsh2_body, zsh2_stock, zsh2_tug, zsh2_free, zsh2_hold, zsh2_known, zsh2_contract, zsh2_window, zsh2_code, zsh2_cells, zg_nsun0, zg_nsun1, zg_nsun2, zg_nrock0, zg_nrock1, zg_nrock2, zg_nrock3, zg_nrock4, zg_nrock5, zg_nrock6, zg_nrock7, zg_nrock8, zg_nrock9, zg_nrock10, zg_nrock11, zg_nrock12, zg_nrock13, zg_nrock14, zg_ntug0, zg_ntug1, zg_ntug2, zg_ntug3, zg_ntug4, zg_ntug5, zg_ntug6, zg_ntug7, zg_ntug8, zg_ntug9, zg_ntug10, zg_ntug11, zg_ntug12, zg_ntug13, zg_ntug14, zg_ntug15, zg_ntug17, zg_ntug18, zg_ntug19, zg_ntug20, zg_ntug21, zg_ntug22, zg_ncon0, zg_ncon1, zg_ncon2, zg_ncon3, zg_ncon4, zg_ncon5, zg_ncon6, zg_nwin0, zg_nwin1, zg_nwin2, zg_nwin3, zg_nwin4, zg_nwin5, zg_ncode0, zg_ncode1, zg_ncode3, zg_nrule, zg_nstock, zg_nhold, zg_nknown, zg_nord, zg_nrep, zg_ncla, zg_ntou, zg_ncel, zu_nsun0, zu_nsun1, zu_nsun2, zu_nrock0, zu_nrock1, zu_nrock2, zu_nrock3, zu_nrock4, zu_nrock5, zu_nrock6, zu_nrock7, zu_nrock8, zu_nrock9, zu_nrock10, zu_nrock11, zu_nrock12, zu_nrock13, zu_nrock14, zu_ntug0, zu_ntug1, zu_ntug2, zu_ntug3, zu_ntug4, zu_ntug5, zu_ntug6, zu_ntug7, zu_ntug8, zu_ntug9, zu_ntug10, zu_ntug11, zu_ntug12, zu_ntug13, zu_ntug14, zu_ntug15, zu_ntug17, zu_ntug18, zu_ntug19, zu_ntug20, zu_ntug21, zu_ntug22, zu_ncon0, zu_ncon1, zu_ncon2, zu_ncon3, zu_ncon4, zu_ncon5, zu_ncon6, zu_nwin0, zu_nwin1, zu_nwin2, zu_nwin3, zu_nwin4, zu_nwin5, zu_ncode3, zu_nrule, zu_nstock, zu_nhold, zu_nknown, zu_nord, zu_nrep, zu_ncla, zu_ntou, zu_ncel]
/-- a method of the class that reads S: it is done -/
def zAt (D L p r2 r3 s4 : Nat) (T : Nat → Nat) (n y : Nat) (lv : List Value) (x : zLx) (be N j : Nat) (G : List zUn) (c : Nat) (x' : zLx) : Prop := x.1 + (G.length + zwc G) ≤ x'.1 ∧ x.1 < x'.1 ∧ zTk T n x' ∧ ∀ d, D ≤ d → ∀ (C : zCt) (t : Nat), zPC T n C x → C 390 0 6 = nI be → C 390 0 7 = nI 0 → C 390 0 8 = nI 0 → C 390 0 9 = nI t → C 0 0 (14 + p) = nI (N + j) → N + j ≤ x.1 → ∃ C', zR d y 0 lv [] (zZ L, zI C, zPd 184 (85 + 2 * p) r2 r3 s4) = some (some (.int 1), (zZ L, zI C', zPd 184 (85 + 2 * p) r2 r3 s4)) ∧ zCa p T n (N + j) t c C C' G x'
def zAf (D L p r2 r3 s4 : Nat) (T : Nat → Nat) (n y : Nat) (lv : List Value) (x : zLx) (be N j : Nat) (x' : zLx) : Prop := ∀ d, D ≤ d → ∀ (C : zCt) (t : Nat), zPC T n C x → C 390 0 6 = nI be → C 390 0 7 = nI 0 → C 390 0 8 = nI 0 → C 390 0 9 = nI t → C 0 0 (14 + p) = nI (N + j) → N + j ≤ x.1 → ∃ C', zR d y 0 lv [] (zZ L, zI C, zPd 184 (85 + 2 * p) r2 r3 s4) = some (some (.int 0), (zZ L, zI C', zPd 184 (85 + 2 * p) r2 r3 s4)) ∧ C' 390 0 4 = nI x'.1 ∧ zFC p C C'
theorem zfj_14 (V : Nat) : zfj V 15 0 = -1 ∨ ∃ w, w < 15 ∧ zfj V 15 0 = nI w ∧ V = zWK w := by
  have key : ∀ m j, j + m = 15 → zfj V m j = -1 ∨ ∃ w, w < 15 ∧ zfj V m j = nI w ∧ V = zWK w := by
    intro m
    induction m with
    | zero => intro j _; exact Or.inl rfl
    | succ m IH =>
      intro j hj
      by_cases q : V = zWK j
      · exact Or.inr ⟨j, by omega, if_pos q, q⟩
      · rw [show zfj V (m + 1) j = zfj V m (j + 1) from if_neg q]
        exact IH (j + 1) (by omega)
  exact key 15 0 rfl
theorem zWK_pos : ∀ w, w < 15 → 0 < zWK w := by decide
theorem zfj_w {V w : Nat} (hw : w < 15) (h : V = zWK w) : zfj V 15 0 = nI w := by
  subst h
  rcases (show w = 0 ∨ w = 1 ∨ w = 2 ∨ w = 3 ∨ w = 4 ∨ w = 5 ∨ w = 6 ∨ w = 7 ∨ w = 8 ∨ w = 9 ∨ w = 10 ∨ w = 11 ∨ w = 12 ∨ w = 13 ∨ w = 14 by omega) with rfl | rfl | rfl | rfl | rfl | rfl | rfl | rfl | rfl | rfl | rfl | rfl | rfl | rfl | rfl <;> decide
theorem zV_1 {T : Nat → Nat} {x : zLx} {w : Nat} (hw : w < 15) (h : zV T x = zWK w) : x.2.2 = 1 := by
  have := zWK_pos w hw
  unfold zV at h
  split at h
  · rename_i q; exact q.1
  · omega
theorem C18_pre (d L p r2 r3 s4 : Nat) (C : zCt) {T : Nat → Nat} {n t w : Nat} {x : zLx} (h : zPC T n C x) (hk : zTk T n x) (hw : w < 14) (hV : zV T x = zWK w) (h9 : C 390 0 9 = nI t) : ∃ F : zGp, zR (d + 4) 18 0 [.ref 190, zmk] [] (zZ L, zI C, zPd 184 (85 + 2 * p) r2 r3 s4) = zR (d + 4) 18 31 [.ref 190, .int (nI w)] [] (zZ L, zI (zcs C 390 F), zPd 184 (85 + 2 * p) r2 r3 s4) ∧ zPC T n (zcs C 390 F) (zadv T n x) ∧ F 0 9 = nI (t + 1) ∧ ∀ f, f ≠ 3 → f ≠ 4 → f ≠ 5 → f ≠ 9 → F 0 f = C 390 0 f := by
  have hkind := zV_1 (by omega) hV
  have t1 := C19 (d + 1) L p r2 r3 s4 C h hk zmk
  rw [zfj_w (by omega) hV] at t1
  have p1 : zPC T n (zcs C 390 (zup (C 390) 0 9 (nI (t + 1)))) x := zPC_f h (by decide)
  obtain ⟨F, t2, f2, f3⟩ := C14 (d + 1) L p r2 r3 s4 _ p1 hk.2.1 (by rw [hkind]; decide)
  rw [zcs_cs] at t2 f2
  have c1 : ¬ nI w < 0 := nI_pos (by omega)
  have c2 : ¬ nI w = 14 := fun q => by have := (nI_eq (b := 14) (by omega) (by decide)).mp q; omega
  refine ⟨F, ?_, f2, ?_, fun f a b c e => ?_⟩
  · rw [e18_0]
    simp +decide (disch := omega) only [e18_4, e18_9, e18_17, t1, h9, c1, c2, t2, zpre, ite_self, zs1, zs2, zs3, zI_eqb, and_self, not_true_eq_false, if_true, if_false, ite_true, ite_false, not_false_eq_true, zBP, zBZ, zisO, zisA, zlen, decide_true, decide_false, Bool.and_self, Bool.and_true, Bool.true_and, cond_true, cond_false, zBG, zBR, zBU, zBV, zinb_n, zix_n, zlA, zlB, zlM, zlN, zlX, zlI, nI_add, Nat.add_eq_zero_iff, false_and, and_false, and_true, true_and, true_or, or_true, false_or, or_false, zbool_i, zb0, zb1, zshp_0, zcs_eq, zcs_n, zcs_cs, zup_g, zup_n, zp2_sun, zp2_rock, zp2_tug, zp2_contract, zp2_window, zp2_code, zp2_rbody, zp2_rstock, zp2_tfree, zp2_thold, zp2_tknown, zp2_ccells, zsh2_sun, zsh2_rock, zsh2_body, zsh2_stock, zsh2_tug, zsh2_free, zsh2_hold, zsh2_known, zsh2_contract, zsh2_window, zsh2_code, zsh2_cells, zg_nsun0, zg_nsun1, zg_nsun2, zg_nrock0, zg_nrock1, zg_nrock2, zg_nrock3, zg_nrock4, zg_nrock5, zg_nrock6, zg_nrock7, zg_nrock8, zg_nrock9, zg_nrock10, zg_nrock11, zg_nrock12, zg_nrock13, zg_nrock14, zg_ntug0, zg_ntug1, zg_ntug2, zg_ntug3, zg_ntug4, zg_ntug5, zg_ntug6, zg_ntug7, zg_ntug8, zg_ntug9, zg_ntug10, zg_ntug11, zg_ntug12, zg_ntug13, zg_ntug14, zg_ntug15, zg_ntug17, zg_ntug18, zg_ntug19, zg_ntug20, zg_ntug21, zg_ntug22, zg_ncon0, zg_ncon1, zg_ncon2, zg_ncon3, zg_ncon4, zg_ncon5, zg_ncon6, zg_nwin0, zg_nwin1, zg_nwin2, zg_nwin3, zg_nwin4, zg_nwin5, zg_ncode0, zg_ncode1, zg_ncode3, zg_nrule, zg_nstock, zg_nhold, zg_nknown, zg_nord, zg_nrep, zg_ncla, zg_ntou, zg_ncel, zu_nsun0, zu_nsun1, zu_nsun2, zu_nrock0, zu_nrock1, zu_nrock2, zu_nrock3, zu_nrock4, zu_nrock5, zu_nrock6, zu_nrock7, zu_nrock8, zu_nrock9, zu_nrock10, zu_nrock11, zu_nrock12, zu_nrock13, zu_nrock14, zu_ntug0, zu_ntug1, zu_ntug2, zu_ntug3, zu_ntug4, zu_ntug5, zu_ntug6, zu_ntug7, zu_ntug8, zu_ntug9, zu_ntug10, zu_ntug11, zu_ntug12, zu_ntug13, zu_ntug14, zu_ntug15, zu_ntug17, zu_ntug18, zu_ntug19, zu_ntug20, zu_ntug21, zu_ntug22, zu_ncon0, zu_ncon1, zu_ncon2, zu_ncon3, zu_ncon4, zu_ncon5, zu_ncon6, zu_nwin0, zu_nwin1, zu_nwin2, zu_nwin3, zu_nwin4, zu_nwin5, zu_ncode3, zu_nrule, zu_nstock, zu_nhold, zu_nknown, zu_nord, zu_nrep, zu_ncla, zu_ntou, zu_ncel]
  · rw [f3 9 (by decide) (by decide) (by decide), zcs_eq, zup_g]
  · rw [f3 f a b c, zcs_eq, zup_n _ _ (by omega)]

theorem zCa_pre {p : Nat} {T : Nat → Nat} {n U t : Nat} {C : zCt} {F : zGp} {x : zLx} (hp : p < 4) (h : zPC T n (zcs C 390 F) x) (h9 : F 0 9 = nI (t + 1)) (hF : ∀ f, f ≠ 3 → f ≠ 4 → f ≠ 5 → f ≠ 9 → F 0 f = C 390 0 f) (hU : C 0 0 (14 + p) = nI U) : zCa p T n U t 1 C (zcs C 390 F) [] x := by
  refine ⟨h, zFC_390 C F, fun f a b c d => by rw [zcs_eq]; exact hF f a b c d, by rw [zcs_eq]; exact h9, by rw [zcs_n _ _ (by decide)]; exact hU, fun i f _ => by rw [zcs_n _ _ (by omega)], trivial⟩

