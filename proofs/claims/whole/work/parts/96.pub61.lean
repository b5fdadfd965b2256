/-! THE PROGRAM: an E in the class, printed by wip/gen/pub61.py -/
theorem e24_24v (d : Nat) (Z : List (Nat × Nat)) (I : Nat → Nat → Int32) (P : Nat → Nat → Nat) (r0 : Nat) (x1 x2 : Int32) (v3 : Value) : zR d 24 24 [.ref r0, .int x1, .int x2, v3] [] (Z, I, P) = (if 120 ≤ x2 then zR d 24 83 [.ref r0, .int x1, .int x2, v3] [] (Z, I, P) else zR d 24 30 [.ref r0, .int x1, .int x2, v3] [] (Z, I, P)) := zE_br (g := true) (p := 120 ≤ x2) (t := 83) (f := 30) zK24 rfl zi24 16 3 rfl
def zrw (A : zGp) : Nat → List (Int32 × Int32) → Prop
  | _, [] => True
  | U, q :: r => zwr (A U 0) (A U 1) q.1 q.2 ∧ zrw A (U + 1) r
theorem zrw_app {A : zGp} : ∀ {a b : List (Int32 × Int32)} {U : Nat}, zrw A U (a ++ b) ↔ zrw A U a ∧ zrw A (U + a.length) b := by
  intro a
  induction a with
  | nil => intro b U; exact ⟨fun h => ⟨trivial, h⟩, fun h => h.2⟩
  | cons q r IH =>
    intro b U
    have e : U + 1 + r.length = U + (q :: r).length := by simp only [List.length_cons]; omega
    constructor
    · rintro ⟨h1, h3⟩
      have := IH.mp h3
      rw [e] at this
      exact ⟨⟨h1, this.1⟩, this.2⟩
    · rintro ⟨⟨h1, h3⟩, h4⟩
      rw [← e] at h4
      exact ⟨h1, IH.mpr ⟨h3, h4⟩⟩
theorem zrw_c {A B : zGp} : ∀ {a : List (Int32 × Int32)} {U : Nat}, (∀ i f, i < U + a.length → B i f = A i f) → zrw A U a → zrw B U a := by
  intro a
  induction a with
  | nil => intro U _ _; trivial
  | cons q r IH =>
    intro U hg h
    obtain ⟨h1, h3⟩ := h
    simp only [List.length_cons] at hg
    refine ⟨?_, IH (fun i f hi => hg i f (by omega)) h3⟩
    rw [hg U 0 (by omega), hg U 1 (by omega)]
    exact h1
def zFC (p : Nat) (C C' : zCt) : Prop := (∀ g, g ≠ 0 → g ≠ 390 → g ≠ 10 + p → C' g = C g) ∧ ∀ f, f ≠ 14 + p → C' 0 0 f = C 0 0 f
theorem zFC_r (p : Nat) (C : zCt) : zFC p C C := ⟨fun _ _ _ _ => rfl, fun _ _ => rfl⟩
theorem zFC_t {p : Nat} {A B C : zCt} (h1 : zFC p A B) (h2 : zFC p B C) : zFC p A C := ⟨fun g a b c => (h2.1 g a b c).trans (h1.1 g a b c), fun f a => (h2.2 f a).trans (h1.2 f a)⟩
/-- words are put behind U rows of code -/
def zCk (p : Nat) (T : Nat → Nat) (n U : Nat) (C C' : zCt) (ws : List (Int32 × Int32)) (x' : zLx) : Prop := zPC T n C' x' ∧ zFC p C C' ∧ (∀ f, f ≠ 3 → f ≠ 4 → f ≠ 5 → C' 390 0 f = C 390 0 f) ∧ C' 0 0 (14 + p) = nI (U + ws.length) ∧ (∀ i f, i < U → C' (10 + p) i f = C (10 + p) i f) ∧ zrw (C' (10 + p)) U ws
theorem zCk_t {p : Nat} {T : Nat → Nat} {n U : Nat} {A B C : zCt} {w1 w2 : List (Int32 × Int32)} {x1 x2 : zLx} (h1 : zCk p T n U A B w1 x1) (h2 : zCk p T n (U + w1.length) B C w2 x2) : zCk p T n U A C (w1 ++ w2) x2 := by
  obtain ⟨a1, a2, a3, a4, a5, a6⟩ := h1
  obtain ⟨b1, b2, b3, b4, b5, b6⟩ := h2
  refine ⟨b1, zFC_t a2 b2, fun f c d e => (b3 f c d e).trans (a3 f c d e), ?_, fun i f hi => (b5 i f (by omega)).trans (a5 i f hi), ?_⟩
  · rw [b4, List.length_append, Nat.add_assoc]
  · exact zrw_app.mpr ⟨zrw_c (fun i f hi => b5 i f hi) a6, b6⟩
theorem zPC_g {T : Nat → Nat} {n : Nat} {C D : zCt} {x : zLx} (h : zPC T n C x) (h1 : D 384 = C 384) (h2 : ∀ f, f = 1 ∨ f = 3 ∨ f = 4 ∨ f = 5 → D 390 0 f = C 390 0 f) : zPC T n D x := by
  unfold zPC zLT_ at *
  rw [h1, h2 1 (by omega), h2 3 (by omega), h2 4 (by omega), h2 5 (by omega)]
  exact h
theorem zCk_em {p : Nat} (hp : p < 4) {T : Nat → Nat} {n U : Nat} {C : zCt} {x : zLx} (h : zPC T n C x) {o v w v' : Int32} (hw : zwr o v w v') : zCk p T n U C (zem p C U o v) [(w, v')] x := by
  unfold zem
  refine ⟨zPC_g h ?_ (fun f _ => ?_), ⟨fun g a b c => ?_, fun f a => ?_⟩, fun f a b c => ?_, ?_, fun i f hi => ?_, ?_, trivial⟩
  · rw [zcs_n _ _ (by omega), zcs_n _ _ (by omega)]
  · rw [zcs_n _ _ (by omega), zcs_n _ _ (by omega)]
  · rw [zcs_n _ _ c, zcs_n _ _ a]
  · rw [zcs_n _ _ (by omega), zcs_eq, zup_n _ _ (by omega)]
  · rw [zcs_n _ _ (by omega), zcs_n _ _ (by omega)]
  · rw [zcs_n _ _ (by omega), zcs_eq, zup_g]; rfl
  · rw [zcs_eq, zup_n _ _ (by omega), zup_n _ _ (by omega)]
  · rw [zcs_eq, zup_n _ _ (by omega), zup_g, zup_g]
    exact hw
theorem zCk_go {p : Nat} {T : Nat → Nat} {n U : Nat} {C : zCt} {x : zLx} {F : zGp} (hp : p < 4) (h : zPC T n (zcs C 390 F) x) (hF : ∀ f, f ≠ 3 → f ≠ 4 → f ≠ 5 → F 0 f = C 390 0 f) (hU : C 0 0 (14 + p) = nI U) : zCk p T n U C (zcs C 390 F) [] x := by
  refine ⟨h, ⟨fun g a b c => by rw [zcs_n _ _ b], fun f _ => by rw [zcs_n _ _ (by decide)]⟩, fun f a b c => by rw [zcs_eq]; exact hF f a b c, by rw [zcs_n _ _ (by decide)]; exact hU, fun i f _ => by rw [zcs_n _ _ (by omega)], trivial⟩
/-- a method of the class that reads words: it is done -/
def zEt (D L p r2 r3 s4 : Nat) (T : Nat → Nat) (n y : Nat) (lv : List Value) (x : zLx) (b s : Nat) (ws : List (Int32 × Int32)) (x' : zLx) : Prop := x.1 + ws.length ≤ x'.1 ∧ x.1 < x'.1 ∧ zTk T n x' ∧ ∀ d, D ≤ d → ∀ (C : zCt) (U : Nat), zPC T n C x → C 390 0 7 = nI b → C 390 0 8 = nI s → C 0 0 (14 + p) = nI U → U ≤ x.1 → ∃ C', zR d y 0 lv [] (zZ L, zI C, zPd 184 (85 + 2 * p) r2 r3 s4) = some (some (.int 1), (zZ L, zI C', zPd 184 (85 + 2 * p) r2 r3 s4)) ∧ zCk p T n U C C' ws x'
/-- it finds a fault at x' -/
def zEf (D L p r2 r3 s4 : Nat) (T : Nat → Nat) (n y : Nat) (lv : List Value) (x : zLx) (b s : Nat) (x' : zLx) : Prop := ∀ d, D ≤ d → ∀ (C : zCt) (U : Nat), zPC T n C x → C 390 0 7 = nI b → C 390 0 8 = nI s → C 0 0 (14 + p) = nI U → U ≤ x.1 → ∃ C', zR d y 0 lv [] (zZ L, zI C, zPd 184 (85 + 2 * p) r2 r3 s4) = some (some (.int 0), (zZ L, zI C', zPd 184 (85 + 2 * p) r2 r3 s4)) ∧ C' 390 0 4 = nI x'.1 ∧ zFC p C C'

theorem znm_let {b : Nat} (hm : znm b = true) : nI b ∈ zlet := by
  unfold znm at hm
  have hm : b = 120 ∨ b = 121 ∨ b = 117 ∨ b = 118 ∨ b = 102 ∨ b = 119 ∨ b = 109 ∨ b = 116 ∨ b = 107 ∨ b = 115 := by simpa using hm
  rcases hm with rfl | rfl | rfl | rfl | rfl | rfl | rfl | rfl | rfl | rfl <;> decide
theorem E_num (D L p r2 r3 s4 : Nat) (hp : p < 4) (hD : 6 ≤ D) (T : Nat → Nat) (n : Nat) (x : zLx) (b s : Nat) (hk : zTk T n x) (hkind : x.2.2 = 2) : zEt D L p r2 r3 s4 T n 25 [.ref 190] x b s [(1, zvl T (x.2.1 - x.1) x.1 0)] (zadv T n x) := by
  have ha := zadv_k T n x hk.2.1
  have hlt := hk.2.2.2.2.1 (by rw [hkind]; decide)
  refine ⟨by simp only [List.length_cons, List.length_nil]; omega, by omega, ha.1, fun e he C U h h7 h8 hU hUx => ?_⟩
  have h120 := h.1.2.1
  have hn := hk.2.1
  obtain ⟨d, rfl⟩ : ∃ d, e = d + 6 := ⟨e - 6, by omega⟩
  have h3 : C 390 0 3 = 2 := by have := h.2.1; rw [hkind] at this; exact this
  have t1 := C22 (d + 4) L p r2 r3 s4 C h hk
  have t2 := C23 (d + 4) L p r2 r3 s4 hp C (U := U) (by omega) hU 16 (zvl T (x.2.1 - x.1) x.1 0)
  have e1 := zCk_em hp (n := n) (T := T) (U := U) h (o := 16) (v := zvl T (x.2.1 - x.1) x.1 0) (w := 1) ⟨by unfold zopw; decide, rfl, fun q => absurd q (by decide)⟩
  obtain ⟨F, t3, f2, f3⟩ := C14 (d + 3) L p r2 r3 s4 _ e1.1 hk.2.1 (by rw [hkind]; decide)
  refine ⟨_, ?_, zCk_t e1 (zCk_go hp f2 f3 e1.2.2.2.1)⟩
  simp +decide (disch := omega) only [e25_0, e25_8, e25_15, e25_18, e25_23, h3, t1, t2, t3, zpre, ite_self, zs1, zs2, zs3, zI_eqb, and_self, not_true_eq_false, if_true, if_false, ite_true, ite_false, not_false_eq_true, zBP, zBZ, zisO, zisA, zlen, decide_true, decide_false, Bool.and_self, Bool.and_true, Bool.true_and, cond_true, cond_false, zBG, zBR, zBU, zBV, zinb_n, zix_n, zlA, zlB, zlM, zlN, zlX, zlI, nI_add, Nat.add_eq_zero_iff, false_and, and_false, and_true, true_and, true_or, or_true, false_or, or_false, zbool_i, zb0, zb1, zshp_0, zcs_eq, zcs_n, zcs_cs, zup_g, zup_n, zp2_sun, zp2_rock, zp2_tug, zp2_contract, zp2_window, zp2_code, zp2_rbody, zp2_rstock, zp2_tfree, zp2_thold, zp2_tknown, zp2_ccells, zsh2_sun, zsh2_rock, zsh2_body, zsh2_stock, zsh2_tug, zsh2_free, zsh2_hold, zsh2_known, zsh2_contract, zsh2_window, zsh2_code, zsh2_cells, zg_nsun0, zg_nsun1, zg_nsun2, zg_nrock0, zg_nrock1, zg_nrock2, zg_nrock3, zg_nrock4, zg_nrock5, zg_nrock6, zg_nrock7, zg_nrock8, zg_nrock9, zg_nrock10, zg_nrock11, zg_nrock12, zg_nrock13, zg_nrock14, zg_ntug0, zg_ntug1, zg_ntug2, zg_ntug3, zg_ntug4, zg_ntug5, zg_ntug6, zg_ntug7, zg_ntug8, zg_ntug9, zg_ntug10, zg_ntug11, zg_ntug12, zg_ntug13, zg_ntug14, zg_ntug15, zg_ntug17, zg_ntug18, zg_ntug19, zg_ntug20, zg_ntug21, zg_ntug22, zg_ncon0, zg_ncon1, zg_ncon2, zg_ncon3, zg_ncon4, zg_ncon5, zg_ncon6, zg_nwin0, zg_nwin1, zg_nwin2, zg_nwin3, zg_nwin4, zg_nwin5, zg_ncode0, zg_ncode1, zg_ncode3, zg_nrule, zg_nstock, zg_nhold, zg_nknown, zg_nord, zg_nrep, zg_ncla, zg_ntou, zg_ncel, zu_nsun0, zu_nsun1, zu_nsun2, zu_nrock0, zu_nrock1, zu_nrock2, zu_nrock3, zu_nrock4, zu_nrock5, zu_nrock6, zu_nrock7, zu_nrock8, zu_nrock9, zu_nrock10, zu_nrock11, zu_nrock12, zu_nrock13, zu_nrock14, zu_ntug0, zu_ntug1, zu_ntug2, zu_ntug3, zu_ntug4, zu_ntug5, zu_ntug6, zu_ntug7, zu_ntug8, zu_ntug9, zu_ntug10, zu_ntug11, zu_ntug12, zu_ntug13, zu_ntug14, zu_ntug15, zu_ntug17, zu_ntug18, zu_ntug19, zu_ntug20, zu_ntug21, zu_ntug22, zu_ncon0, zu_ncon1, zu_ncon2, zu_ncon3, zu_ncon4, zu_ncon5, zu_ncon6, zu_nwin0, zu_nwin1, zu_nwin2, zu_nwin3, zu_nwin4, zu_nwin5, zu_ncode3, zu_nrule, zu_nstock, zu_nhold, zu_nknown, zu_nord, zu_nrep, zu_ncla, zu_ntou, zu_ncel]
theorem E_name (D L p r2 r3 s4 : Nat) (hp : p < 4) (hD : 6 ≤ D) (T : Nat → Nat) (n : Nat) (x : zLx) (b s : Nat) (hk : zTk T n x) (hkind : x.2.2 = 1) (hl : x.2.1 - x.1 = 1) (hm : znm (T x.1) = true) : zEt D L p r2 r3 s4 T n 25 [.ref 190] x b s [(2, nI (T x.1))] (zadv T n x) := by
  have ha := zadv_k T n x hk.2.1
  have hlt := hk.2.2.2.2.1 (by rw [hkind]; decide)
  refine ⟨by simp only [List.length_cons, List.length_nil]; omega, by omega, ha.1, fun e he C U h h7 h8 hU hUx => ?_⟩
  have h120 := h.1.2.1
  have hn := hk.2.1
  obtain ⟨d, rfl⟩ : ∃ d, e = d + 6 := ⟨e - 6, by omega⟩
  have h3 : C 390 0 3 = 1 := by have := h.2.1; rw [hkind] at this; exact this
  have t1 := C15_in (d + 4) L p r2 r3 s4 C h.1 (show x.1 < n by omega)
  have hb := (h.1.2.2 x.1 (by omega)).2
  obtain ⟨z1, z2, z3⟩ := znm_ix (T x.1) hb
  have z1 := z1.mpr hm
  have h4 := h.2.2.1
  have h5 := h.2.2.2
  have es : nI x.2.1 - nI x.1 = 1 := by rw [nI_sub (by omega), hl]; rfl
  have t2 := C23 (d + 3) L p r2 r3 s4 hp C (U := U) (by omega) hU 17 (nI (T x.1))
  have e1 := zCk_em hp (n := n) (T := T) (U := U) h (o := 17) (v := nI (T x.1)) (w := 2) (v' := nI (T x.1)) ⟨by unfold zopw; decide, rfl, fun _ => znm_let hm⟩
  obtain ⟨F, t3, f2, f3⟩ := C14 (d + 2) L p r2 r3 s4 _ e1.1 hk.2.1 (by rw [hkind]; decide)
  refine ⟨_, ?_, zCk_t e1 (zCk_go hp f2 f3 e1.2.2.2.1)⟩
  simp +decide (disch := omega) only [e25_0, e25_25, e25_33, e25_37, e26_0, e26_8, e26_22, e26_32, e26_34, e26_41, e26_46, h3, h4, h5, es, t1, t2, t3, z1, z2, z3, zpre, ite_self, zs1, zs2, zs3, zI_eqb, and_self, not_true_eq_false, if_true, if_false, ite_true, ite_false, not_false_eq_true, zBP, zBZ, zisO, zisA, zlen, decide_true, decide_false, Bool.and_self, Bool.and_true, Bool.true_and, cond_true, cond_false, zBG, zBR, zBU, zBV, zinb_n, zix_n, zlA, zlB, zlM, zlN, zlX, zlI, nI_add, Nat.add_eq_zero_iff, false_and, and_false, and_true, true_and, true_or, or_true, false_or, or_false, zbool_i, zb0, zb1, zshp_0, zcs_eq, zcs_n, zcs_cs, zup_g, zup_n, zp2_sun, zp2_rock, zp2_tug, zp2_contract, zp2_window, zp2_code, zp2_rbody, zp2_rstock, zp2_tfree, zp2_thold, zp2_tknown, zp2_ccells, zsh2_sun, zsh2_rock, zsh2_body, zsh2_stock, zsh2_tug, zsh2_free, zsh2_hold, zsh2_known, zsh2_contract, zsh2_window, zsh2_code, zsh2_cells, zg_nsun0, zg_nsun1, zg_nsun2, zg_nrock0, zg_nrock1, zg_nrock2, zg_nrock3, zg_nrock4, zg_nrock5, zg_nrock6, zg_nrock7, zg_nrock8, zg_nrock9, zg_nrock10, zg_nrock11, zg_nrock12, zg_nrock13, zg_nrock14, zg_ntug0, zg_ntug1, zg_ntug2, zg_ntug3, zg_ntug4, zg_ntug5, zg_ntug6, zg_ntug7, zg_ntug8, zg_ntug9, zg_ntug10, zg_ntug11, zg_ntug12, zg_ntug13, zg_ntug14, zg_ntug15, zg_ntug17, zg_ntug18, zg_ntug19, zg_ntug20, zg_ntug21, zg_ntug22, zg_ncon0, zg_ncon1, zg_ncon2, zg_ncon3, zg_ncon4, zg_ncon5, zg_ncon6, zg_nwin0, zg_nwin1, zg_nwin2, zg_nwin3, zg_nwin4, zg_nwin5, zg_ncode0, zg_ncode1, zg_ncode3, zg_nrule, zg_nstock, zg_nhold, zg_nknown, zg_nord, zg_nrep, zg_ncla, zg_ntou, zg_ncel, zu_nsun0, zu_nsun1, zu_nsun2, zu_nrock0, zu_nrock1, zu_nrock2, zu_nrock3, zu_nrock4, zu_nrock5, zu_nrock6, zu_nrock7, zu_nrock8, zu_nrock9, zu_nrock10, zu_nrock11, zu_nrock12, zu_nrock13, zu_nrock14, zu_ntug0, zu_ntug1, zu_ntug2, zu_ntug3, zu_ntug4, zu_ntug5, zu_ntug6, zu_ntug7, zu_ntug8, zu_ntug9, zu_ntug10, zu_ntug11, zu_ntug12, zu_ntug13, zu_ntug14, zu_ntug15, zu_ntug17, zu_ntug18, zu_ntug19, zu_ntug20, zu_ntug21, zu_ntug22, zu_ncon0, zu_ncon1, zu_ncon2, zu_ncon3, zu_ncon4, zu_ncon5, zu_ncon6, zu_nwin0, zu_nwin1, zu_nwin2, zu_nwin3, zu_nwin4, zu_nwin5, zu_ncode3, zu_nrule, zu_nstock, zu_nhold, zu_nknown, zu_nord, zu_nrep, zu_ncla, zu_ntou, zu_ncel]
theorem E_noname (D L p r2 r3 s4 : Nat) (hp : p < 4) (hD : 6 ≤ D) (T : Nat → Nat) (n : Nat) (x : zLx) (b s : Nat) (hk : zTk T n x) (hkind : x.2.2 = 1) (hm : ¬ (x.2.1 - x.1 = 1 ∧ znm (T x.1) = true)) : zEf D L p r2 r3 s4 T n 25 [.ref 190] x b s x := by
  have hlt := hk.2.2.2.2.1 (by rw [hkind]; decide)
  intro e he C U h h7 h8 hU hUx
  have h120 := h.1.2.1
  have hn := hk.2.1
  obtain ⟨d, rfl⟩ : ∃ d, e = d + 6 := ⟨e - 6, by omega⟩
  have h3 : C 390 0 3 = 1 := by have := h.2.1; rw [hkind] at this; exact this
  have t1 := C15_in (d + 4) L p r2 r3 s4 C h.1 (show x.1 < n by omega)
  have hb := (h.1.2.2 x.1 (by omega)).2
  obtain ⟨z1, z2, z3⟩ := znm_ix (T x.1) hb
  have h4 := h.2.2.1
  have h5 := h.2.2.2
  refine ⟨C, ?_, h4, zFC_r _ _⟩
  by_cases hl : x.2.1 - x.1 = 1
  · have es : nI x.2.1 - nI x.1 = 1 := by rw [nI_sub (by omega), hl]; rfl
    have z4 : ¬ (0 ≤ zixOf (zstr 1) ((Int32.toUInt32 (nI (T x.1)) % 65536).toInt32) 0) := fun q => hm ⟨hl, z1.mp q⟩
    simp +decide (disch := omega) only [e25_0, e25_25, e25_33, e25_37, e26_0, e26_8, e26_22, e26_32, h3, h4, h5, es, t1, z2, z3, z4, zpre, ite_self, zs1, zs2, zs3, zI_eqb, and_self, not_true_eq_false, if_true, if_false, ite_true, ite_false, not_false_eq_true, zBP, zBZ, zisO, zisA, zlen, decide_true, decide_false, Bool.and_self, Bool.and_true, Bool.true_and, cond_true, cond_false, zBG, zBR, zBU, zBV, zinb_n, zix_n, zlA, zlB, zlM, zlN, zlX, zlI, nI_add, Nat.add_eq_zero_iff, false_and, and_false, and_true, true_and, true_or, or_true, false_or, or_false, zbool_i, zb0, zb1, zshp_0, zcs_eq, zcs_n, zcs_cs, zup_g, zup_n, zp2_sun, zp2_rock, zp2_tug, zp2_contract, zp2_window, zp2_code, zp2_rbody, zp2_rstock, zp2_tfree, zp2_thold, zp2_tknown, zp2_ccells, zsh2_sun, zsh2_rock, zsh2_body, zsh2_stock, zsh2_tug, zsh2_free, zsh2_hold, zsh2_known, zsh2_contract, zsh2_window, zsh2_code, zsh2_cells, zg_nsun0, zg_nsun1, zg_nsun2, zg_nrock0, zg_nrock1, zg_nrock2, zg_nrock3, zg_nrock4, zg_nrock5, zg_nrock6, zg_nrock7, zg_nrock8, zg_nrock9, zg_nrock10, zg_nrock11, zg_nrock12, zg_nrock13, zg_nrock14, zg_ntug0, zg_ntug1, zg_ntug2, zg_ntug3, zg_ntug4, zg_ntug5, zg_ntug6, zg_ntug7, zg_ntug8, zg_ntug9, zg_ntug10, zg_ntug11, zg_ntug12, zg_ntug13, zg_ntug14, zg_ntug15, zg_ntug17, zg_ntug18, zg_ntug19, zg_ntug20, zg_ntug21, zg_ntug22, zg_ncon0, zg_ncon1, zg_ncon2, zg_ncon3, zg_ncon4, zg_ncon5, zg_ncon6, zg_nwin0, zg_nwin1, zg_nwin2, zg_nwin3, zg_nwin4, zg_nwin5, zg_ncode0, zg_ncode1, zg_ncode3, zg_nrule, zg_nstock, zg_nhold, zg_nknown, zg_nord, zg_nrep, zg_ncla, zg_ntou, zg_ncel, zu_nsun0, zu_nsun1, zu_nsun2, zu_nrock0, zu_nrock1, zu_nrock2, zu_nrock3, zu_nrock4, zu_nrock5, zu_nrock6, zu_nrock7, zu_nrock8, zu_nrock9, zu_nrock10, zu_nrock11, zu_nrock12, zu_nrock13, zu_nrock14, zu_ntug0, zu_ntug1, zu_ntug2, zu_ntug3, zu_ntug4, zu_ntug5, zu_ntug6, zu_ntug7, zu_ntug8, zu_ntug9, zu_ntug10, zu_ntug11, zu_ntug12, zu_ntug13, zu_ntug14, zu_ntug15, zu_ntug17, zu_ntug18, zu_ntug19, zu_ntug20, zu_ntug21, zu_ntug22, zu_ncon0, zu_ncon1, zu_ncon2, zu_ncon3, zu_ncon4, zu_ncon5, zu_ncon6, zu_nwin0, zu_nwin1, zu_nwin2, zu_nwin3, zu_nwin4, zu_nwin5, zu_ncode3, zu_nrule, zu_nstock, zu_nhold, zu_nknown, zu_nord, zu_nrep, zu_ncla, zu_ntou, zu_ncel]
  · have es : ¬ nI x.2.1 - nI x.1 = 1 := by
      rw [nI_sub (by omega)]
      exact fun q => hl ((nI_eq (b := 1) (by omega) (by decide)).mp q)
    simp +decide (disch := omega) only [e25_0, e25_25, e25_33, e25_37, e26_0, e26_8, e26_32, h3, h4, h5, es, t1, zpre, ite_self, zs1, zs2, zs3, zI_eqb, and_self, not_true_eq_false, if_true, if_false, ite_true, ite_false, not_false_eq_true, zBP, zBZ, zisO, zisA, zlen, decide_true, decide_false, Bool.and_self, Bool.and_true, Bool.true_and, cond_true, cond_false, zBG, zBR, zBU, zBV, zinb_n, zix_n, zlA, zlB, zlM, zlN, zlX, zlI, nI_add, Nat.add_eq_zero_iff, false_and, and_false, and_true, true_and, true_or, or_true, false_or, or_false, zbool_i, zb0, zb1, zshp_0, zcs_eq, zcs_n, zcs_cs, zup_g, zup_n, zp2_sun, zp2_rock, zp2_tug, zp2_contract, zp2_window, zp2_code, zp2_rbody, zp2_rstock, zp2_tfree, zp2_thold, zp2_tknown, zp2_ccells, zsh2_sun, zsh2_rock, zsh2_body, zsh2_stock, zsh2_tug, zsh2_free, zsh2_hold, zsh2_known, zsh2_contract, zsh2_window, zsh2_code, zsh2_cells, zg_nsun0, zg_nsun1, zg_nsun2, zg_nrock0, zg_nrock1, zg_nrock2, zg_nrock3, zg_nrock4, zg_nrock5, zg_nrock6, zg_nrock7, zg_nrock8, zg_nrock9, zg_nrock10, zg_nrock11, zg_nrock12, zg_nrock13, zg_nrock14, zg_ntug0, zg_ntug1, zg_ntug2, zg_ntug3, zg_ntug4, zg_ntug5, zg_ntug6, zg_ntug7, zg_ntug8, zg_ntug9, zg_ntug10, zg_ntug11, zg_ntug12, zg_ntug13, zg_ntug14, zg_ntug15, zg_ntug17, zg_ntug18, zg_ntug19, zg_ntug20, zg_ntug21, zg_ntug22, zg_ncon0, zg_ncon1, zg_ncon2, zg_ncon3, zg_ncon4, zg_ncon5, zg_ncon6, zg_nwin0, zg_nwin1, zg_nwin2, zg_nwin3, zg_nwin4, zg_nwin5, zg_ncode0, zg_ncode1, zg_ncode3, zg_nrule, zg_nstock, zg_nhold, zg_nknown, zg_nord, zg_nrep, zg_ncla, zg_ntou, zg_ncel, zu_nsun0, zu_nsun1, zu_nsun2, zu_nrock0, zu_nrock1, zu_nrock2, zu_nrock3, zu_nrock4, zu_nrock5, zu_nrock6, zu_nrock7, zu_nrock8, zu_nrock9, zu_nrock10, zu_nrock11, zu_nrock12, zu_nrock13, zu_nrock14, zu_ntug0, zu_ntug1, zu_ntug2, zu_ntug3, zu_ntug4, zu_ntug5, zu_ntug6, zu_ntug7, zu_ntug8, zu_ntug9, zu_ntug10, zu_ntug11, zu_ntug12, zu_ntug13, zu_ntug14, zu_ntug15, zu_ntug17, zu_ntug18, zu_ntug19, zu_ntug20, zu_ntug21, zu_ntug22, zu_ncon0, zu_ncon1, zu_ncon2, zu_ncon3, zu_ncon4, zu_ncon5, zu_ncon6, zu_nwin0, zu_nwin1, zu_nwin2, zu_nwin3, zu_nwin4, zu_nwin5, zu_ncode3, zu_nrule, zu_nstock, zu_nhold, zu_nknown, zu_nord, zu_nrep, zu_ncla, zu_ntou, zu_ncel]

theorem zt33 {d L p r2 r3 s4 : Nat} {C : zCt} {z : Option (Option Value × zHp)} {c : Nat} (h : zR d 27 0 [.ref 190, .int (nI c)] [] (zZ L, zI C, zPd 184 (85 + 2 * p) r2 r3 s4) = z) : zR d 27 0 [.ref 190, .int (nI c)] [] (zZ L, zI C, zPd 184 (85 + 2 * p) r2 r3 s4) = z := h
/-- a sign ahead: too many of them -/
theorem E_pre0 (D L p r2 r3 s4 : Nat) (hp : p < 4) (hD : 6 ≤ D) (T : Nat → Nat) (n : Nat) (x : zLx) (b s : Nat) (hk : zTk T n x) (hs : zisg T x 33 ∨ zisg T x 45) (h8s : 8 ≤ s) (hs9 : s < 100) : zEf D L p r2 r3 s4 T n 25 [.ref 190] x b s x := by
  have hkind : x.2.2 = 3 := by rcases hs with q | q <;> exact q.1
  intro e he C U h h7 h8 hU hUx
  obtain ⟨d, rfl⟩ : ∃ d, e = d + 6 := ⟨e - 6, by omega⟩
  have h3 : C 390 0 3 = 3 := by have := h.2.1; rw [hkind] at this; exact this
  have c1 : ¬ nI s < 8 := nI_nlt (b := 8) h8s (by omega)
  refine ⟨C, ?_, h.2.2.1, zFC_r _ _⟩
  by_cases q : zisg T x 33
  · have t1 : zR (d + 5) 27 0 [.ref 190, .int 33] [] (zZ L, zI C, zPd 184 (85 + 2 * p) r2 r3 s4) = _ := C27_y (d + 4) L p r2 r3 s4 C h hk q
    simp +decide (disch := omega) only [e25_0, e25_25, e25_38, e25_44, e25_56, e25_60, e28_0, e28_9, h3, h8, c1, t1, zpre, ite_self, zs1, zs2, zs3, zI_eqb, and_self, not_true_eq_false, if_true, if_false, ite_true, ite_false, not_false_eq_true, zBP, zBZ, zisO, zisA, zlen, decide_true, decide_false, Bool.and_self, Bool.and_true, Bool.true_and, cond_true, cond_false, zBG, zBR, zBU, zBV, zinb_n, zix_n, zlA, zlB, zlM, zlN, zlX, zlI, nI_add, Nat.add_eq_zero_iff, false_and, and_false, and_true, true_and, true_or, or_true, false_or, or_false, zbool_i, zb0, zb1, zshp_0, zcs_eq, zcs_n, zcs_cs, zup_g, zup_n, zp2_sun, zp2_rock, zp2_tug, zp2_contract, zp2_window, zp2_code, zp2_rbody, zp2_rstock, zp2_tfree, zp2_thold, zp2_tknown, zp2_ccells, zsh2_sun, zsh2_rock, zsh2_body, zsh2_stock, zsh2_tug, zsh2_free, zsh2_hold, zsh2_known, zsh2_contract, zsh2_window, zsh2_code, zsh2_cells, zg_nsun0, zg_nsun1, zg_nsun2, zg_nrock0, zg_nrock1, zg_nrock2, zg_nrock3, zg_nrock4, zg_nrock5, zg_nrock6, zg_nrock7, zg_nrock8, zg_nrock9, zg_nrock10, zg_nrock11, zg_nrock12, zg_nrock13, zg_nrock14, zg_ntug0, zg_ntug1, zg_ntug2, zg_ntug3, zg_ntug4, zg_ntug5, zg_ntug6, zg_ntug7, zg_ntug8, zg_ntug9, zg_ntug10, zg_ntug11, zg_ntug12, zg_ntug13, zg_ntug14, zg_ntug15, zg_ntug17, zg_ntug18, zg_ntug19, zg_ntug20, zg_ntug21, zg_ntug22, zg_ncon0, zg_ncon1, zg_ncon2, zg_ncon3, zg_ncon4, zg_ncon5, zg_ncon6, zg_nwin0, zg_nwin1, zg_nwin2, zg_nwin3, zg_nwin4, zg_nwin5, zg_ncode0, zg_ncode1, zg_ncode3, zg_nrule, zg_nstock, zg_nhold, zg_nknown, zg_nord, zg_nrep, zg_ncla, zg_ntou, zg_ncel, zu_nsun0, zu_nsun1, zu_nsun2, zu_nrock0, zu_nrock1, zu_nrock2, zu_nrock3, zu_nrock4, zu_nrock5, zu_nrock6, zu_nrock7, zu_nrock8, zu_nrock9, zu_nrock10, zu_nrock11, zu_nrock12, zu_nrock13, zu_nrock14, zu_ntug0, zu_ntug1, zu_ntug2, zu_ntug3, zu_ntug4, zu_ntug5, zu_ntug6, zu_ntug7, zu_ntug8, zu_ntug9, zu_ntug10, zu_ntug11, zu_ntug12, zu_ntug13, zu_ntug14, zu_ntug15, zu_ntug17, zu_ntug18, zu_ntug19, zu_ntug20, zu_ntug21, zu_ntug22, zu_ncon0, zu_ncon1, zu_ncon2, zu_ncon3, zu_ncon4, zu_ncon5, zu_ncon6, zu_nwin0, zu_nwin1, zu_nwin2, zu_nwin3, zu_nwin4, zu_nwin5, zu_ncode3, zu_nrule, zu_nstock, zu_nhold, zu_nknown, zu_nord, zu_nrep, zu_ncla, zu_ntou, zu_ncel]
  · have t1 : zR (d + 5) 27 0 [.ref 190, .int 33] [] (zZ L, zI C, zPd 184 (85 + 2 * p) r2 r3 s4) = _ := C27_n (d + 4) L p r2 r3 s4 C h hk (c := 33) (by decide) q
    have q2 : zisg T x 45 := by rcases hs with w | w; exact absurd w q; exact w
    have t2 : zR (d + 5) 27 0 [.ref 190, .int 45] [] (zZ L, zI C, zPd 184 (85 + 2 * p) r2 r3 s4) = _ := C27_y (d + 4) L p r2 r3 s4 C h hk q2
    simp +decide (disch := omega) only [e25_0, e25_25, e25_38, e25_44, e25_47, e25_53, e25_56, e25_60, e28_0, e28_9, h3, h8, c1, t1, t2, zpre, ite_self, zs1, zs2, zs3, zI_eqb, and_self, not_true_eq_false, if_true, if_false, ite_true, ite_false, not_false_eq_true, zBP, zBZ, zisO, zisA, zlen, decide_true, decide_false, Bool.and_self, Bool.and_true, Bool.true_and, cond_true, cond_false, zBG, zBR, zBU, zBV, zinb_n, zix_n, zlA, zlB, zlM, zlN, zlX, zlI, nI_add, Nat.add_eq_zero_iff, false_and, and_false, and_true, true_and, true_or, or_true, false_or, or_false, zbool_i, zb0, zb1, zshp_0, zcs_eq, zcs_n, zcs_cs, zup_g, zup_n, zp2_sun, zp2_rock, zp2_tug, zp2_contract, zp2_window, zp2_code, zp2_rbody, zp2_rstock, zp2_tfree, zp2_thold, zp2_tknown, zp2_ccells, zsh2_sun, zsh2_rock, zsh2_body, zsh2_stock, zsh2_tug, zsh2_free, zsh2_hold, zsh2_known, zsh2_contract, zsh2_window, zsh2_code, zsh2_cells, zg_nsun0, zg_nsun1, zg_nsun2, zg_nrock0, zg_nrock1, zg_nrock2, zg_nrock3, zg_nrock4, zg_nrock5, zg_nrock6, zg_nrock7, zg_nrock8, zg_nrock9, zg_nrock10, zg_nrock11, zg_nrock12, zg_nrock13, zg_nrock14, zg_ntug0, zg_ntug1, zg_ntug2, zg_ntug3, zg_ntug4, zg_ntug5, zg_ntug6, zg_ntug7, zg_ntug8, zg_ntug9, zg_ntug10, zg_ntug11, zg_ntug12, zg_ntug13, zg_ntug14, zg_ntug15, zg_ntug17, zg_ntug18, zg_ntug19, zg_ntug20, zg_ntug21, zg_ntug22, zg_ncon0, zg_ncon1, zg_ncon2, zg_ncon3, zg_ncon4, zg_ncon5, zg_ncon6, zg_nwin0, zg_nwin1, zg_nwin2, zg_nwin3, zg_nwin4, zg_nwin5, zg_ncode0, zg_ncode1, zg_ncode3, zg_nrule, zg_nstock, zg_nhold, zg_nknown, zg_nord, zg_nrep, zg_ncla, zg_ntou, zg_ncel, zu_nsun0, zu_nsun1, zu_nsun2, zu_nrock0, zu_nrock1, zu_nrock2, zu_nrock3, zu_nrock4, zu_nrock5, zu_nrock6, zu_nrock7, zu_nrock8, zu_nrock9, zu_nrock10, zu_nrock11, zu_nrock12, zu_nrock13, zu_nrock14, zu_ntug0, zu_ntug1, zu_ntug2, zu_ntug3, zu_ntug4, zu_ntug5, zu_ntug6, zu_ntug7, zu_ntug8, zu_ntug9, zu_ntug10, zu_ntug11, zu_ntug12, zu_ntug13, zu_ntug14, zu_ntug15, zu_ntug17, zu_ntug18, zu_ntug19, zu_ntug20, zu_ntug21, zu_ntug22, zu_ncon0, zu_ncon1, zu_ncon2, zu_ncon3, zu_ncon4, zu_ncon5, zu_ncon6, zu_nwin0, zu_nwin1, zu_nwin2, zu_nwin3, zu_nwin4, zu_nwin5, zu_ncode3, zu_nrule, zu_nstock, zu_nhold, zu_nknown, zu_nord, zu_nrep, zu_ncla, zu_ntou, zu_ncel]
/-- neither a number nor a name nor a sign ahead nor a bracket -/
theorem E_none (D L p r2 r3 s4 : Nat) (hp : p < 4) (hD : 6 ≤ D) (T : Nat → Nat) (n : Nat) (x : zLx) (b s : Nat) (hk : zTk T n x) (hkn : x.2.2 ≠ 1 ∧ x.2.2 ≠ 2) (h33 : ¬ zisg T x 33) (h45 : ¬ zisg T x 45) (h40 : 8 ≤ b ∨ ¬ zisg T x 40) (hb9 : b < 100) : zEf D L p r2 r3 s4 T n 25 [.ref 190] x b s x := by
  intro e he C U h h7 h8 hU hUx
  obtain ⟨d, rfl⟩ : ∃ d, e = d + 6 := ⟨e - 6, by omega⟩
  have h3n : ¬ C 390 0 3 = 2 ∧ ¬ C 390 0 3 = 1 := by
    rw [h.2.1]
    exact ⟨fun q => by have := (nI_eq (b := 2) (by omega) (by decide)).mp q; omega, fun q => by have := (nI_eq (b := 1) (by omega) (by decide)).mp q; omega⟩
  have h5k := hk.2.2.1
  refine ⟨C, ?_, h.2.2.1, zFC_r _ _⟩
  have t1 : zR (d + 5) 27 0 [.ref 190, .int 33] [] (zZ L, zI C, zPd 184 (85 + 2 * p) r2 r3 s4) = _ := C27_n (d + 4) L p r2 r3 s4 C h hk (c := 33) (by decide) h33
  have t2 : zR (d + 5) 27 0 [.ref 190, .int 45] [] (zZ L, zI C, zPd 184 (85 + 2 * p) r2 r3 s4) = _ := C27_n (d + 4) L p r2 r3 s4 C h hk (c := 45) (by decide) h45
  by_cases hb8 : 8 ≤ b
  · have c1 : (8 : Int32) ≤ nI b := nI_le (a := 8) hb8 (by omega)
    simp +decide (disch := omega) only [e25_0, e25_25, e25_38, e25_44, e25_47, e25_53, e25_61, e25_79, h3n, h7, c1, t1, t2, zpre, ite_self, zs1, zs2, zs3, zI_eqb, and_self, not_true_eq_false, if_true, if_false, ite_true, ite_false, not_false_eq_true, zBP, zBZ, zisO, zisA, zlen, decide_true, decide_false, Bool.and_self, Bool.and_true, Bool.true_and, cond_true, cond_false, zBG, zBR, zBU, zBV, zinb_n, zix_n, zlA, zlB, zlM, zlN, zlX, zlI, nI_add, Nat.add_eq_zero_iff, false_and, and_false, and_true, true_and, true_or, or_true, false_or, or_false, zbool_i, zb0, zb1, zshp_0, zcs_eq, zcs_n, zcs_cs, zup_g, zup_n, zp2_sun, zp2_rock, zp2_tug, zp2_contract, zp2_window, zp2_code, zp2_rbody, zp2_rstock, zp2_tfree, zp2_thold, zp2_tknown, zp2_ccells, zsh2_sun, zsh2_rock, zsh2_body, zsh2_stock, zsh2_tug, zsh2_free, zsh2_hold, zsh2_known, zsh2_contract, zsh2_window, zsh2_code, zsh2_cells, zg_nsun0, zg_nsun1, zg_nsun2, zg_nrock0, zg_nrock1, zg_nrock2, zg_nrock3, zg_nrock4, zg_nrock5, zg_nrock6, zg_nrock7, zg_nrock8, zg_nrock9, zg_nrock10, zg_nrock11, zg_nrock12, zg_nrock13, zg_nrock14, zg_ntug0, zg_ntug1, zg_ntug2, zg_ntug3, zg_ntug4, zg_ntug5, zg_ntug6, zg_ntug7, zg_ntug8, zg_ntug9, zg_ntug10, zg_ntug11, zg_ntug12, zg_ntug13, zg_ntug14, zg_ntug15, zg_ntug17, zg_ntug18, zg_ntug19, zg_ntug20, zg_ntug21, zg_ntug22, zg_ncon0, zg_ncon1, zg_ncon2, zg_ncon3, zg_ncon4, zg_ncon5, zg_ncon6, zg_nwin0, zg_nwin1, zg_nwin2, zg_nwin3, zg_nwin4, zg_nwin5, zg_ncode0, zg_ncode1, zg_ncode3, zg_nrule, zg_nstock, zg_nhold, zg_nknown, zg_nord, zg_nrep, zg_ncla, zg_ntou, zg_ncel, zu_nsun0, zu_nsun1, zu_nsun2, zu_nrock0, zu_nrock1, zu_nrock2, zu_nrock3, zu_nrock4, zu_nrock5, zu_nrock6, zu_nrock7, zu_nrock8, zu_nrock9, zu_nrock10, zu_nrock11, zu_nrock12, zu_nrock13, zu_nrock14, zu_ntug0, zu_ntug1, zu_ntug2, zu_ntug3, zu_ntug4, zu_ntug5, zu_ntug6, zu_ntug7, zu_ntug8, zu_ntug9, zu_ntug10, zu_ntug11, zu_ntug12, zu_ntug13, zu_ntug14, zu_ntug15, zu_ntug17, zu_ntug18, zu_ntug19, zu_ntug20, zu_ntug21, zu_ntug22, zu_ncon0, zu_ncon1, zu_ncon2, zu_ncon3, zu_ncon4, zu_ncon5, zu_ncon6, zu_nwin0, zu_nwin1, zu_nwin2, zu_nwin3, zu_nwin4, zu_nwin5, zu_ncode3, zu_nrule, zu_nstock, zu_nhold, zu_nknown, zu_nord, zu_nrep, zu_ncla, zu_ntou, zu_ncel]
  · have c1 : ¬ (8 : Int32) ≤ nI b := nI_ge (b := 8) (by omega) (by decide)
    have h40 : ¬ zisg T x 40 := by rcases h40 with w | w; exact absurd w hb8; exact w
    have t3 : zR (d + 5) 29 0 [.ref 190, .int 40] [] (zZ L, zI C, zPd 184 (85 + 2 * p) r2 r3 s4) = _ := C29_n (d + 3) L p r2 r3 s4 C h hk (c := 40) (by decide) h40
    simp +decide (disch := omega) only [e25_0, e25_25, e25_38, e25_44, e25_47, e25_53, e25_61, e25_70, e25_76, e25_79, h3n, h7, c1, t1, t2, t3, zpre, ite_self, zs1, zs2, zs3, zI_eqb, and_self, not_true_eq_false, if_true, if_false, ite_true, ite_false, not_false_eq_true, zBP, zBZ, zisO, zisA, zlen, decide_true, decide_false, Bool.and_self, Bool.and_true, Bool.true_and, cond_true, cond_false, zBG, zBR, zBU, zBV, zinb_n, zix_n, zlA, zlB, zlM, zlN, zlX, zlI, nI_add, Nat.add_eq_zero_iff, false_and, and_false, and_true, true_and, true_or, or_true, false_or, or_false, zbool_i, zb0, zb1, zshp_0, zcs_eq, zcs_n, zcs_cs, zup_g, zup_n, zp2_sun, zp2_rock, zp2_tug, zp2_contract, zp2_window, zp2_code, zp2_rbody, zp2_rstock, zp2_tfree, zp2_thold, zp2_tknown, zp2_ccells, zsh2_sun, zsh2_rock, zsh2_body, zsh2_stock, zsh2_tug, zsh2_free, zsh2_hold, zsh2_known, zsh2_contract, zsh2_window, zsh2_code, zsh2_cells, zg_nsun0, zg_nsun1, zg_nsun2, zg_nrock0, zg_nrock1, zg_nrock2, zg_nrock3, zg_nrock4, zg_nrock5, zg_nrock6, zg_nrock7, zg_nrock8, zg_nrock9, zg_nrock10, zg_nrock11, zg_nrock12, zg_nrock13, zg_nrock14, zg_ntug0, zg_ntug1, zg_ntug2, zg_ntug3, zg_ntug4, zg_ntug5, zg_ntug6, zg_ntug7, zg_ntug8, zg_ntug9, zg_ntug10, zg_ntug11, zg_ntug12, zg_ntug13, zg_ntug14, zg_ntug15, zg_ntug17, zg_ntug18, zg_ntug19, zg_ntug20, zg_ntug21, zg_ntug22, zg_ncon0, zg_ncon1, zg_ncon2, zg_ncon3, zg_ncon4, zg_ncon5, zg_ncon6, zg_nwin0, zg_nwin1, zg_nwin2, zg_nwin3, zg_nwin4, zg_nwin5, zg_ncode0, zg_ncode1, zg_ncode3, zg_nrule, zg_nstock, zg_nhold, zg_nknown, zg_nord, zg_nrep, zg_ncla, zg_ntou, zg_ncel, zu_nsun0, zu_nsun1, zu_nsun2, zu_nrock0, zu_nrock1, zu_nrock2, zu_nrock3, zu_nrock4, zu_nrock5, zu_nrock6, zu_nrock7, zu_nrock8, zu_nrock9, zu_nrock10, zu_nrock11, zu_nrock12, zu_nrock13, zu_nrock14, zu_ntug0, zu_ntug1, zu_ntug2, zu_ntug3, zu_ntug4, zu_ntug5, zu_ntug6, zu_ntug7, zu_ntug8, zu_ntug9, zu_ntug10, zu_ntug11, zu_ntug12, zu_ntug13, zu_ntug14, zu_ntug15, zu_ntug17, zu_ntug18, zu_ntug19, zu_ntug20, zu_ntug21, zu_ntug22, zu_ncon0, zu_ncon1, zu_ncon2, zu_ncon3, zu_ncon4, zu_ncon5, zu_ncon6, zu_nwin0, zu_nwin1, zu_nwin2, zu_nwin3, zu_nwin4, zu_nwin5, zu_ncode3, zu_nrule, zu_nstock, zu_nhold, zu_nknown, zu_nord, zu_nrep, zu_ncla, zu_ntou, zu_ncel]

