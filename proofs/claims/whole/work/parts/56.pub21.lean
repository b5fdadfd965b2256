/-! THE TOUR: the pure search, and the class, printed by wip/gen/pub21.py -/
theorem e68_16v (d : Nat) (Z : List (Nat × Nat)) (I : Nat → Nat → Int32) (P : Nat → Nat → Nat) (r0 : Nat) (x1 x2 x3 x4 x5 x6 : Int32) (v8 v9 v10 v11 v12 : Value) (v7 : Value) : zR d 68 16 [.ref r0, .int x1, .int x2, .int x3, .int x4, .int x5, .int x6, v7, v8, v9, v10, v11, v12] [] (Z, I, P) = bif ((zisO Z r0 6 && decide (¬ P r0 4 = 0)) && (zisO Z (P r0 4) 10 && (true))) then (if (I (P r0 4) 9) ≤ x6 then zR d 68 311 [.ref r0, .int x1, .int x2, .int x3, .int x4, .int x5, .int x6, v7, v8, v9, v10, v11, v12] [] (Z, I, P) else zR d 68 28 [.ref r0, .int x1, .int x2, .int x3, .int x4, .int x5, .int x6, v7, v8, v9, v10, v11, v12] [] (Z, I, P)) else none := zE_br (g := ((zisO Z r0 6 && decide (¬ P r0 4 = 0)) && (zisO Z (P r0 4) 10 && (true)))) (p := (I (P r0 4) 9) ≤ x6) (t := 311) (f := 28) zK68 rfl zi68 8 5 rfl
abbrev zSt : Type := Nat × Bool × Int32 × Nat × Nat × zGp
def zbt (x : Int32) (i : Nat) : Prop := ((x >>> (nI i &&& 31)) &&& 1) = 0
def zbet (w : Int32) (e m : Nat) (s : zSt) : Bool := if w = s.2.2.1 then (if e = s.2.2.2.1 then decide (m < s.2.2.2.2.1) else decide (e < s.2.2.2.1)) else decide (s.2.2.1 < w)
def zcons (w : Int32) (e m : Nat) (pa : zGp) (s : zSt) : zSt := if zbet w e m s = true then (s.1, s.2.1, w, e, m, pa) else s
def zlv (wd : Nat → Nat → Nat) (k dy : Nat) : Nat := max dy (wd k 2)
def zfw (wd : Nat → Nat → Nat) (K : zGp) (rt k rk dy fu : Nat) : Nat := if K rk 0 = 1 then min 999 (fu + (zlv wd k dy - dy) * rt) else fu
def zok (wd : Nat → Nat → Nat) (K : zGp) (rt e k many : Nat) (pa : zGp) (rk dy fu : Nat) : Prop := wd k 0 = rk ∧ (∀ j, j < many → pa j 0 ≠ nI k) ∧ zlv wd k dy ≤ wd k 3 ∧ zlv wd k dy + wd k 5 ≤ e ∧ wd k 4 ≤ zfw wd K rt k rk dy fu
def zleg (pa : zGp) (many k l e f : Nat) : zGp := fun i c => if i = many then (if c = 0 then nI k else if c = 1 then nI l else if c = 2 then nI e else nI f) else pa i c
def zlp (g : Nat → zSt → zSt) : Nat → Nat → zSt → zSt
  | 0, _, s => s
  | m + 1, k, s => if s.2.1 = true then s else zlp g m (k + 1) (g k s)
noncomputable def zstep (wd : Nat → Nat → Nat) (K : zGp) (rt e : Nat) (rec_ : Nat → Nat → Nat → Nat → Int32 → Int32 → zGp → zSt → zSt) (many rk dy fu : Nat) (wo se : Int32) (pa : zGp) (k : Nat) (s : zSt) : zSt :=
  @ite _ (zok wd K rt e k many pa rk dy fu) (Classical.propDecidable _) (if s.1 = 0 then (s.1, true, s.2.2) else
    rec_ (many + 1) (wd k 1) (zlv wd k dy + wd k 5) (zfw wd K rt k rk dy fu - wd k 4) (wo + (if ((se >>> (nI (wd k 1) &&& 31)) &&& 1) = 0 then K (wd k 1) 9 else 0)) (se ||| ((1 : Int32) <<< (nI (wd k 1) &&& 31))) (zleg pa many k (zlv wd k dy) (zlv wd k dy + wd k 5) (zfw wd K rt k rk dy fu - wd k 4))
      (zcons (wo + (if ((se >>> (nI (wd k 1) &&& 31)) &&& 1) = 0 then K (wd k 1) 9 else 0)) (zlv wd k dy + wd k 5) (many + 1) (zleg pa many k (zlv wd k dy) (zlv wd k dy + wd k 5) (zfw wd K rt k rk dy fu - wd k 4)) (s.1 - 1, s.2))) s
noncomputable def zsch (wd : Nat → Nat → Nat) (K : zGp) (rt e nw : Nat) : Nat → Nat → Nat → Nat → Nat → Int32 → Int32 → zGp → zSt → zSt
  | 0, _, _, _, _, _, _, _, s => s
  | D + 1, many, rk, dy, fu, wo, se, pa, s => zlp (zstep wd K rt e (fun a b c f w x p s => zsch wd K rt e nw D a b c f w x p s) many rk dy fu wo se pa) nw 0 s
theorem zbt_i (x : Int32) {i : Nat} (hi : i < 32) : zbt x i ↔ x.toBitVec.getLsbD i = false := by
  unfold zbt
  have hsh : (nI i &&& 31 : Int32) = nI i := by
    have : ∀ i, i < 32 → (nI i &&& 31 : Int32) = nI i := by decide +kernel
    exact this i hi
  rw [hsh]
  have e : ((x >>> nI i) &&& 1 : Int32).toBitVec = (x.toBitVec.sshiftRight i) &&& 1#32 := by
    have : ((nI i).toBitVec.smod 32).toNat = i := by
      have : ∀ i, i < 32 → ((nI i).toBitVec.smod 32).toNat = i := by decide +kernel
      exact this i hi
    show (x.toBitVec.sshiftRight' ((nI i).toBitVec.smod 32)) &&& 1#32 = _
    unfold BitVec.sshiftRight'
    rw [this]
  constructor
  · intro h
    have h2 := congrArg Int32.toBitVec h
    rw [e] at h2
    have h3 : ((x.toBitVec.sshiftRight i) &&& 1#32).getLsbD 0 = false := by rw [h2]; rfl
    have h4 : (!decide (32 ≤ 0)) = true := rfl
    have h5 : (1#32).getLsbD 0 = true := rfl
    rw [BitVec.getLsbD_and, BitVec.getLsbD_sshiftRight, if_pos (by omega), h4, h5, Bool.true_and, Bool.and_true] at h3
    exact h3
  · intro h
    apply Int32.toBitVec_inj.mp
    rw [e]
    apply BitVec.eq_of_getLsbD_eq
    intro j hj
    rw [BitVec.getLsbD_and]
    by_cases hj0 : j = 0
    · subst hj0
      have h4 : (!decide (32 ≤ 0)) = true := rfl
      rw [BitVec.getLsbD_sshiftRight, if_pos (by omega), h4, Bool.true_and, Nat.add_zero, h, Bool.false_and]
      rfl
    · have : (1#32).getLsbD j = false := by
        have := (by decide +kernel : ∀ j, j < 32 → j ≠ 0 → (1#32).getLsbD j = false)
        exact this j hj hj0
      rw [this, Bool.and_false]
      simp
theorem zone_i {i : Nat} (hi : i < 32) : ((1 : Int32) <<< (nI i &&& 31)).toBitVec = 1#32 <<< i := by
  have : ∀ i, i < 32 → ((1 : Int32) <<< (nI i &&& 31)).toBitVec = 1#32 <<< i := by decide +kernel
  exact this i hi
theorem zbt_or (x : Int32) {i j : Nat} (hi : i < 32) (hj : j < 32) : zbt (x ||| ((1 : Int32) <<< (nI i &&& 31))) j ↔ zbt x j ∧ j ≠ i := by
  rw [zbt_i _ hj, zbt_i _ hj]
  show (x.toBitVec ||| ((1 : Int32) <<< (nI i &&& 31)).toBitVec).getLsbD j = false ↔ _
  rw [zone_i hi, BitVec.getLsbD_or, BitVec.getLsbD_shiftLeft]
  by_cases e : j = i
  · subst e
    simp [hj]
  · have h1 : (1#32).getLsbD (j - i) = false ∨ j < i := by
      by_cases h : j < i
      · exact Or.inr h
      · refine Or.inl ?_
        have := (by decide +kernel : ∀ j, j < 32 → j ≠ 0 → (1#32).getLsbD j = false)
        exact this (j - i) (by omega) (by omega)
    rcases h1 with h1 | h1
    · rw [h1]; simp [e]
    · simp [h1, e]
theorem zbt_back (x : Int32) {i : Nat} (hi : i < 32) (h : zbt x i) : (x ||| ((1 : Int32) <<< (nI i &&& 31))) &&& (((1 : Int32) <<< (nI i &&& 31)) ^^^ (-1)) = x := by
  rw [zbt_i _ hi] at h
  apply Int32.toBitVec_inj.mp
  show (x.toBitVec ||| ((1 : Int32) <<< (nI i &&& 31)).toBitVec) &&& (((1 : Int32) <<< (nI i &&& 31)).toBitVec ^^^ BitVec.allOnes 32) = x.toBitVec
  rw [zone_i hi]
  apply BitVec.eq_of_getLsbD_eq
  intro j hj
  rw [BitVec.getLsbD_and, BitVec.getLsbD_or, BitVec.getLsbD_xor, BitVec.getLsbD_shiftLeft, BitVec.getLsbD_allOnes]
  by_cases e : j = i
  · subst e
    have h' : x.toBitVec[j] = false := by rw [← BitVec.getLsbD_eq_getElem hj]; exact h
    simp [hj, h']
  · by_cases h1 : j < i
    · simp [h1, hj]
    · have h2 := (by decide +kernel : ∀ j, j < 32 → j ≠ 0 → (1#32).getLsbD j = false) (j - i) (by omega) (by omega)
      simp [h2, hj]
theorem zbt_0 {i : Nat} (hi : i < 32) : zbt 0 i := by
  rw [zbt_i _ hi]; simp
theorem nI_mul (a b : Nat) : nI a * nI b = nI (a * b) := (Int32.ofNat_mul a b).symm
theorem nI_sub {a b : Nat} (h : b ≤ a) : nI a - nI b = nI (a - b) := by
  have e : nI a = nI (a - b) + nI b := by rw [nI_add]; congr 1; omega
  rw [e]
  exact Int32.add_sub_cancel _ _
theorem nI_sneg {a b : Nat} (h : a < b) (hb : b < 2147483648) : nI a - nI b < 0 := by
  rw [Int32.lt_iff_toInt_lt, Int32.toInt_sub, nI_toInt (by omega), nI_toInt hb]
  have z : (0 : Int32).toInt = 0 := rfl
  rw [z]
  unfold Int.bmod
  dsimp only
  split <;> omega
theorem zmxn {a b : Nat} (ha : a < 2147483648) (hb : b < 2147483648) : (if nI a < nI b then nI b else nI a) = nI (max a b) := by
  by_cases h : a < b
  · rw [if_pos (nI_lt h hb), Nat.max_eq_right (by omega)]
  · rw [if_neg (nI_nlt (by omega) ha), Nat.max_eq_left (by omega)]
theorem zmnn {a : Nat} (ha : a < 2147483648) : (if nI a < 999 then nI a else 999) = nI (min 999 a) := by
  by_cases h : a < 999
  · rw [if_pos (show nI a < 999 from nI_lt (b := 999) h (by decide)), Nat.min_eq_right (by omega)]
  · rw [if_neg (show ¬ nI a < 999 from nI_nlt (a := a) (b := 999) (by omega) ha), Nat.min_eq_left (by omega)]; rfl
/-- the data of a search -/
def zDt (C : zCt) (wd : Nat → Nat → Nat) (K : zGp) (rt nw nr : Nat) : Prop := C 0 0 11 = nI nw ∧ C 0 0 3 = nI rt ∧ (∀ k, k < nw → ∀ f, f < 6 → C 8 k f = nI (wd k f)) ∧ (∀ r, r < nr → C 2 r 0 = K r 0 ∧ C 2 r 9 = K r 9)
def zDw (wd : Nat → Nat → Nat) (rt nw nr e : Nat) : Prop := nw ≤ 16 ∧ nr ≤ 8 ∧ rt ≤ 50 ∧ e ≤ 2000 ∧ ∀ k, k < nw → wd k 0 < nr ∧ wd k 1 < nr ∧ wd k 2 ≤ 999 ∧ wd k 3 ≤ 999 ∧ wd k 4 ≤ 999 ∧ wd k 5 ≤ 200
def zSk (C : zCt) (e many : Nat) (pa : zGp) (pt : Int32) (s : zSt) : Prop :=
  (C 394 0 2 = s.2.2.1 ∧ C 394 0 3 = nI s.2.2.2.1 ∧ C 394 0 5 = nI e ∧ C 394 0 6 = nI s.1 ∧ C 394 0 7 = (if s.2.1 = true then 1 else 0) ∧ C 394 0 8 = pt ∧ C 395 0 3 = nI many ∧ C 397 0 3 = nI s.2.2.2.2.1) ∧
  (∀ i, i < many → ∀ f, f < 4 → C 396 0 (i * 4 + f) = pa i f) ∧ (∀ i, i < s.2.2.2.2.1 → ∀ f, f < 4 → C 398 0 (i * 4 + f) = s.2.2.2.2.2 i f) ∧ s.2.2.2.2.1 ≤ 6 ∧ s.1 ≤ 20000 ∧ s.2.2.2.1 ≤ 2000 ∧ ∀ i, i < 16 → (zbt pt i ↔ ∀ j, j < many → pa j 0 ≠ nI i)
def zFr (C C' : zCt) : Prop := ∀ g, ¬ (394 ≤ g ∧ g ≤ 398) → C' g = C g
theorem zFr_t {A B C : zCt} (h1 : zFr A B) (h2 : zFr B C) : zFr A C := fun g e => by rw [h2 g e, h1 g e]
theorem zDt_c {C C' : zCt} {wd : Nat → Nat → Nat} {K : zGp} {rt nw nr : Nat} (h : zDt C wd K rt nw nr) (hf : zFr C C') : zDt C' wd K rt nw nr := by
  unfold zDt
  rw [hf 0 (by decide), hf 8 (by decide), hf 2 (by decide)]
  exact h
theorem T69 (d L p0 p2 r2 r3 rt nr : Nat) (C : zCt) (K : zGp) {rk a b : Nat} (hk : rk < nr) (hr8 : nr ≤ 8) (hrt : C 0 0 3 = nI rt) (hK : C 2 rk 0 = K rk 0) (hb : a + b * rt < 2147483648) : zR d 69 0 [.ref 194, .int (nI rk), .int (nI a), .int (nI b)] [] (zZ L, zI C, zPd p0 p2 r2 r3 2) = some (some (.int (nI (if K rk 0 = 1 then min 999 (a + b * rt) else a))), (zZ L, zI C, zPd p0 p2 r2 r3 2)) := by
  have hk8 : rk < 8 := by omega
  have hm := zmnn (a := a + b * rt) hb
  by_cases h : K rk 0 = 1
  · rw [if_pos h]
    simp +decide (disch := omega) only [e69_0, e69_16, e69_38, e69_39, hrt, hK, h, nI_mul, hm, zpre, ite_self, zs1, zs2, zs3, zI_eqb, and_self, not_true_eq_false, if_true, if_false, ite_true, ite_false, not_false_eq_true, zBP, zBZ, zisO, zisA, zlen, decide_true, decide_false, Bool.and_self, Bool.and_true, Bool.true_and, cond_true, cond_false, zBG, zBR, zBU, zBV, zinb_n, zix_n, zlA, zlB, zlM, zlN, zlX, zlI, nI_add, Nat.add_eq_zero_iff, false_and, and_false, and_true, true_and, true_or, or_true, false_or, or_false, zbool_i, zb0, zb1, zshp_0, zcs_eq, zcs_n, zcs_cs, zup_g, zup_n, zp2_sun, zp2_rock, zp2_tug, zp2_contract, zp2_window, zp2_code, zp2_rbody, zp2_rstock, zp2_tfree, zp2_thold, zp2_tknown, zp2_ccells, zsh2_sun, zsh2_rock, zsh2_body, zsh2_stock, zsh2_tug, zsh2_free, zsh2_hold, zsh2_known, zsh2_contract, zsh2_window, zsh2_code, zsh2_cells, zg_nsun0, zg_nsun1, zg_nsun2, zg_nrock0, zg_nrock1, zg_nrock2, zg_nrock3, zg_nrock4, zg_nrock5, zg_nrock6, zg_nrock7, zg_nrock8, zg_nrock9, zg_nrock10, zg_nrock11, zg_nrock12, zg_nrock13, zg_nrock14, zg_ntug0, zg_ntug1, zg_ntug2, zg_ntug3, zg_ntug4, zg_ntug5, zg_ntug6, zg_ntug7, zg_ntug8, zg_ntug9, zg_ntug10, zg_ntug11, zg_ntug12, zg_ntug13, zg_ntug14, zg_ntug15, zg_ntug17, zg_ntug18, zg_ntug19, zg_ntug20, zg_ntug21, zg_ntug22, zg_ncon0, zg_ncon1, zg_ncon2, zg_ncon3, zg_ncon4, zg_ncon5, zg_ncon6, zg_nwin0, zg_nwin1, zg_nwin2, zg_nwin3, zg_nwin4, zg_nwin5, zg_ncode0, zg_ncode1, zg_ncode3, zg_nrule, zg_nstock, zg_nhold, zg_nknown, zg_nord, zg_nrep, zg_ncla, zg_ntou, zg_ncel, zu_nsun0, zu_nsun1, zu_nsun2, zu_nrock0, zu_nrock1, zu_nrock2, zu_nrock3, zu_nrock4, zu_nrock5, zu_nrock6, zu_nrock7, zu_nrock8, zu_nrock9, zu_nrock10, zu_nrock11, zu_nrock12, zu_nrock13, zu_nrock14, zu_ntug0, zu_ntug1, zu_ntug2, zu_ntug3, zu_ntug4, zu_ntug5, zu_ntug6, zu_ntug7, zu_ntug8, zu_ntug9, zu_ntug10, zu_ntug11, zu_ntug12, zu_ntug13, zu_ntug14, zu_ntug15, zu_ntug17, zu_ntug18, zu_ntug19, zu_ntug20, zu_ntug21, zu_ntug22, zu_ncon0, zu_ncon1, zu_ncon2, zu_ncon3, zu_ncon4, zu_ncon5, zu_ncon6, zu_nwin0, zu_nwin1, zu_nwin2, zu_nwin3, zu_nwin4, zu_nwin5, zu_ncode3, zu_nrule, zu_nstock, zu_nhold, zu_nknown, zu_nord, zu_nrep, zu_ncla, zu_ntou, zu_ncel]
  · rw [if_neg h]
    simp +decide (disch := omega) only [e69_0, e69_16, e69_38, e69_39, hrt, hK, h, nI_mul, hm, zpre, ite_self, zs1, zs2, zs3, zI_eqb, and_self, not_true_eq_false, if_true, if_false, ite_true, ite_false, not_false_eq_true, zBP, zBZ, zisO, zisA, zlen, decide_true, decide_false, Bool.and_self, Bool.and_true, Bool.true_and, cond_true, cond_false, zBG, zBR, zBU, zBV, zinb_n, zix_n, zlA, zlB, zlM, zlN, zlX, zlI, nI_add, Nat.add_eq_zero_iff, false_and, and_false, and_true, true_and, true_or, or_true, false_or, or_false, zbool_i, zb0, zb1, zshp_0, zcs_eq, zcs_n, zcs_cs, zup_g, zup_n, zp2_sun, zp2_rock, zp2_tug, zp2_contract, zp2_window, zp2_code, zp2_rbody, zp2_rstock, zp2_tfree, zp2_thold, zp2_tknown, zp2_ccells, zsh2_sun, zsh2_rock, zsh2_body, zsh2_stock, zsh2_tug, zsh2_free, zsh2_hold, zsh2_known, zsh2_contract, zsh2_window, zsh2_code, zsh2_cells, zg_nsun0, zg_nsun1, zg_nsun2, zg_nrock0, zg_nrock1, zg_nrock2, zg_nrock3, zg_nrock4, zg_nrock5, zg_nrock6, zg_nrock7, zg_nrock8, zg_nrock9, zg_nrock10, zg_nrock11, zg_nrock12, zg_nrock13, zg_nrock14, zg_ntug0, zg_ntug1, zg_ntug2, zg_ntug3, zg_ntug4, zg_ntug5, zg_ntug6, zg_ntug7, zg_ntug8, zg_ntug9, zg_ntug10, zg_ntug11, zg_ntug12, zg_ntug13, zg_ntug14, zg_ntug15, zg_ntug17, zg_ntug18, zg_ntug19, zg_ntug20, zg_ntug21, zg_ntug22, zg_ncon0, zg_ncon1, zg_ncon2, zg_ncon3, zg_ncon4, zg_ncon5, zg_ncon6, zg_nwin0, zg_nwin1, zg_nwin2, zg_nwin3, zg_nwin4, zg_nwin5, zg_ncode0, zg_ncode1, zg_ncode3, zg_nrule, zg_nstock, zg_nhold, zg_nknown, zg_nord, zg_nrep, zg_ncla, zg_ntou, zg_ncel, zu_nsun0, zu_nsun1, zu_nsun2, zu_nrock0, zu_nrock1, zu_nrock2, zu_nrock3, zu_nrock4, zu_nrock5, zu_nrock6, zu_nrock7, zu_nrock8, zu_nrock9, zu_nrock10, zu_nrock11, zu_nrock12, zu_nrock13, zu_nrock14, zu_ntug0, zu_ntug1, zu_ntug2, zu_ntug3, zu_ntug4, zu_ntug5, zu_ntug6, zu_ntug7, zu_ntug8, zu_ntug9, zu_ntug10, zu_ntug11, zu_ntug12, zu_ntug13, zu_ntug14, zu_ntug15, zu_ntug17, zu_ntug18, zu_ntug19, zu_ntug20, zu_ntug21, zu_ntug22, zu_ncon0, zu_ncon1, zu_ncon2, zu_ncon3, zu_ncon4, zu_ncon5, zu_ncon6, zu_nwin0, zu_nwin1, zu_nwin2, zu_nwin3, zu_nwin4, zu_nwin5, zu_ncode3, zu_nrule, zu_nstock, zu_nhold, zu_nknown, zu_nord, zu_nrep, zu_ncla, zu_ntou, zu_ncel]
theorem T70 (d L p0 p2 r2 r3 s4 many : Nat) (C : zCt) (w l e f : Int32) (hm : many < 6) (hC : C 395 0 3 = nI many) : zR (d + 2) 70 0 [.ref 194, .int w, .int l, .int e, .int f, zmk] [] (zZ L, zI C, zPd p0 p2 r2 r3 s4) = some (none, (zZ L, zI (zcs (zcs C 395 (zup (C 395) 0 3 (nI (many + 1)))) 396 (zup (zup (zup (zup (C 396) 0 (many * 4) w) 0 (many * 4 + 1) l) 0 (many * 4 + 2) e) 0 (many * 4 + 3) f)), zPd p0 p2 r2 r3 s4)) := by
  have h1 : ¬ (6 : Int32) ≤ nI many := nI_ge (b := 6) hm (by decide)
  have h1b : nI many < (6 : Int32) := nI_lt (b := 6) hm (by decide)
  have h2 : ¬ nI (many + 1) ≤ nI many := nI_ge (by omega) (by omega)
  have h3 : ¬ nI many < 0 := nI_pos (by omega)
  simp +decide (disch := omega) only [e70_0, e70_7, e70_20, e70_31, e70_42, e70_54, e41_0, e41_11, e41_13, e42_0, e42_4, e42_12, e42_16, e42_24, e42_25, hC, h1, h1b, h2, h3, nI_pred, zge0, zlt0, Nat.add_zero, zpre, ite_self, zs1, zs2, zs3, zI_eqb, and_self, not_true_eq_false, if_true, if_false, ite_true, ite_false, not_false_eq_true, zBP, zBZ, zisO, zisA, zlen, decide_true, decide_false, Bool.and_self, Bool.and_true, Bool.true_and, cond_true, cond_false, zBG, zBR, zBU, zBV, zinb_n, zix_n, zlA, zlB, zlM, zlN, zlX, zlI, nI_add, Nat.add_eq_zero_iff, false_and, and_false, and_true, true_and, true_or, or_true, false_or, or_false, zbool_i, zb0, zb1, zshp_0, zcs_eq, zcs_n, zcs_cs, zup_g, zup_n, zp2_sun, zp2_rock, zp2_tug, zp2_contract, zp2_window, zp2_code, zp2_rbody, zp2_rstock, zp2_tfree, zp2_thold, zp2_tknown, zp2_ccells, zsh2_sun, zsh2_rock, zsh2_body, zsh2_stock, zsh2_tug, zsh2_free, zsh2_hold, zsh2_known, zsh2_contract, zsh2_window, zsh2_code, zsh2_cells, zg_nsun0, zg_nsun1, zg_nsun2, zg_nrock0, zg_nrock1, zg_nrock2, zg_nrock3, zg_nrock4, zg_nrock5, zg_nrock6, zg_nrock7, zg_nrock8, zg_nrock9, zg_nrock10, zg_nrock11, zg_nrock12, zg_nrock13, zg_nrock14, zg_ntug0, zg_ntug1, zg_ntug2, zg_ntug3, zg_ntug4, zg_ntug5, zg_ntug6, zg_ntug7, zg_ntug8, zg_ntug9, zg_ntug10, zg_ntug11, zg_ntug12, zg_ntug13, zg_ntug14, zg_ntug15, zg_ntug17, zg_ntug18, zg_ntug19, zg_ntug20, zg_ntug21, zg_ntug22, zg_ncon0, zg_ncon1, zg_ncon2, zg_ncon3, zg_ncon4, zg_ncon5, zg_ncon6, zg_nwin0, zg_nwin1, zg_nwin2, zg_nwin3, zg_nwin4, zg_nwin5, zg_ncode0, zg_ncode1, zg_ncode3, zg_nrule, zg_nstock, zg_nhold, zg_nknown, zg_nord, zg_nrep, zg_ncla, zg_ntou, zg_ncel, zu_nsun0, zu_nsun1, zu_nsun2, zu_nrock0, zu_nrock1, zu_nrock2, zu_nrock3, zu_nrock4, zu_nrock5, zu_nrock6, zu_nrock7, zu_nrock8, zu_nrock9, zu_nrock10, zu_nrock11, zu_nrock12, zu_nrock13, zu_nrock14, zu_ntug0, zu_ntug1, zu_ntug2, zu_ntug3, zu_ntug4, zu_ntug5, zu_ntug6, zu_ntug7, zu_ntug8, zu_ntug9, zu_ntug10, zu_ntug11, zu_ntug12, zu_ntug13, zu_ntug14, zu_ntug15, zu_ntug17, zu_ntug18, zu_ntug19, zu_ntug20, zu_ntug21, zu_ntug22, zu_ncon0, zu_ncon1, zu_ncon2, zu_ncon3, zu_ncon4, zu_ncon5, zu_ncon6, zu_nwin0, zu_nwin1, zu_nwin2, zu_nwin3, zu_nwin4, zu_nwin5, zu_ncode3, zu_nrule, zu_nstock, zu_nhold, zu_nknown, zu_nord, zu_nrep, zu_ncla, zu_ntou, zu_ncel]
theorem T71 (d L p0 p2 r2 r3 s4 many : Nat) (C : zCt) (w : Int32) (e : Nat) (s : zSt) (he : e < 2147483648) (hm : many ≤ 6) (hb : s.2.2.2.2.1 ≤ 6) (hb2 : s.2.2.2.1 ≤ 2000) (h2 : C 394 0 2 = s.2.2.1) (h3 : C 394 0 3 = nI s.2.2.2.1) (h5 : C 395 0 3 = nI many) (h7 : C 397 0 3 = nI s.2.2.2.2.1) : zR (d + 1) 71 0 [.ref 194, .int w, .int (nI e)] [] (zZ L, zI C, zPd p0 p2 r2 r3 s4) = some (some (.int (if zbet w e many s = true then 1 else 0)), (zZ L, zI C, zPd p0 p2 r2 r3 s4)) := by
  unfold zbet
  by_cases q1 : w = s.2.2.1
  · by_cases q2 : e = s.2.2.2.1
    · have q2' : nI e = nI s.2.2.2.1 := by rw [q2]
      by_cases q3 : many < s.2.2.2.2.1
      · have q3' : ¬ nI s.2.2.2.2.1 ≤ nI many := nI_ge q3 (by omega)
        rw [if_pos q1, if_pos q2, decide_eq_true q3, if_pos rfl]
        simp +decide (disch := omega) only [e71_0, e71_8, e71_16, e71_20, e71_21, e71_22, e71_30, e71_38, e71_42, e71_43, e71_44, e71_51, e71_58, e71_61, e71_65, e71_66, e43_0, h2, h3, h5, h7, q1, q2', q3', Bool.false_eq_true, zpre, ite_self, zs1, zs2, zs3, zI_eqb, and_self, not_true_eq_false, if_true, if_false, ite_true, ite_false, not_false_eq_true, zBP, zBZ, zisO, zisA, zlen, decide_true, decide_false, Bool.and_self, Bool.and_true, Bool.true_and, cond_true, cond_false, zBG, zBR, zBU, zBV, zinb_n, zix_n, zlA, zlB, zlM, zlN, zlX, zlI, nI_add, Nat.add_eq_zero_iff, false_and, and_false, and_true, true_and, true_or, or_true, false_or, or_false, zbool_i, zb0, zb1, zshp_0, zcs_eq, zcs_n, zcs_cs, zup_g, zup_n, zp2_sun, zp2_rock, zp2_tug, zp2_contract, zp2_window, zp2_code, zp2_rbody, zp2_rstock, zp2_tfree, zp2_thold, zp2_tknown, zp2_ccells, zsh2_sun, zsh2_rock, zsh2_body, zsh2_stock, zsh2_tug, zsh2_free, zsh2_hold, zsh2_known, zsh2_contract, zsh2_window, zsh2_code, zsh2_cells, zg_nsun0, zg_nsun1, zg_nsun2, zg_nrock0, zg_nrock1, zg_nrock2, zg_nrock3, zg_nrock4, zg_nrock5, zg_nrock6, zg_nrock7, zg_nrock8, zg_nrock9, zg_nrock10, zg_nrock11, zg_nrock12, zg_nrock13, zg_nrock14, zg_ntug0, zg_ntug1, zg_ntug2, zg_ntug3, zg_ntug4, zg_ntug5, zg_ntug6, zg_ntug7, zg_ntug8, zg_ntug9, zg_ntug10, zg_ntug11, zg_ntug12, zg_ntug13, zg_ntug14, zg_ntug15, zg_ntug17, zg_ntug18, zg_ntug19, zg_ntug20, zg_ntug21, zg_ntug22, zg_ncon0, zg_ncon1, zg_ncon2, zg_ncon3, zg_ncon4, zg_ncon5, zg_ncon6, zg_nwin0, zg_nwin1, zg_nwin2, zg_nwin3, zg_nwin4, zg_nwin5, zg_ncode0, zg_ncode1, zg_ncode3, zg_nrule, zg_nstock, zg_nhold, zg_nknown, zg_nord, zg_nrep, zg_ncla, zg_ntou, zg_ncel, zu_nsun0, zu_nsun1, zu_nsun2, zu_nrock0, zu_nrock1, zu_nrock2, zu_nrock3, zu_nrock4, zu_nrock5, zu_nrock6, zu_nrock7, zu_nrock8, zu_nrock9, zu_nrock10, zu_nrock11, zu_nrock12, zu_nrock13, zu_nrock14, zu_ntug0, zu_ntug1, zu_ntug2, zu_ntug3, zu_ntug4, zu_ntug5, zu_ntug6, zu_ntug7, zu_ntug8, zu_ntug9, zu_ntug10, zu_ntug11, zu_ntug12, zu_ntug13, zu_ntug14, zu_ntug15, zu_ntug17, zu_ntug18, zu_ntug19, zu_ntug20, zu_ntug21, zu_ntug22, zu_ncon0, zu_ncon1, zu_ncon2, zu_ncon3, zu_ncon4, zu_ncon5, zu_ncon6, zu_nwin0, zu_nwin1, zu_nwin2, zu_nwin3, zu_nwin4, zu_nwin5, zu_ncode3, zu_nrule, zu_nstock, zu_nhold, zu_nknown, zu_nord, zu_nrep, zu_ncla, zu_ntou, zu_ncel]
      · have q3' : nI s.2.2.2.2.1 ≤ nI many := nI_le (by omega) (by omega)
        rw [if_pos q1, if_pos q2, decide_eq_false q3]
        simp +decide (disch := omega) only [e71_0, e71_8, e71_16, e71_20, e71_21, e71_22, e71_30, e71_38, e71_42, e71_43, e71_44, e71_51, e71_58, e71_61, e71_65, e71_66, e43_0, h2, h3, h5, h7, q1, q2', q3', Bool.false_eq_true, zpre, ite_self, zs1, zs2, zs3, zI_eqb, and_self, not_true_eq_false, if_true, if_false, ite_true, ite_false, not_false_eq_true, zBP, zBZ, zisO, zisA, zlen, decide_true, decide_false, Bool.and_self, Bool.and_true, Bool.true_and, cond_true, cond_false, zBG, zBR, zBU, zBV, zinb_n, zix_n, zlA, zlB, zlM, zlN, zlX, zlI, nI_add, Nat.add_eq_zero_iff, false_and, and_false, and_true, true_and, true_or, or_true, false_or, or_false, zbool_i, zb0, zb1, zshp_0, zcs_eq, zcs_n, zcs_cs, zup_g, zup_n, zp2_sun, zp2_rock, zp2_tug, zp2_contract, zp2_window, zp2_code, zp2_rbody, zp2_rstock, zp2_tfree, zp2_thold, zp2_tknown, zp2_ccells, zsh2_sun, zsh2_rock, zsh2_body, zsh2_stock, zsh2_tug, zsh2_free, zsh2_hold, zsh2_known, zsh2_contract, zsh2_window, zsh2_code, zsh2_cells, zg_nsun0, zg_nsun1, zg_nsun2, zg_nrock0, zg_nrock1, zg_nrock2, zg_nrock3, zg_nrock4, zg_nrock5, zg_nrock6, zg_nrock7, zg_nrock8, zg_nrock9, zg_nrock10, zg_nrock11, zg_nrock12, zg_nrock13, zg_nrock14, zg_ntug0, zg_ntug1, zg_ntug2, zg_ntug3, zg_ntug4, zg_ntug5, zg_ntug6, zg_ntug7, zg_ntug8, zg_ntug9, zg_ntug10, zg_ntug11, zg_ntug12, zg_ntug13, zg_ntug14, zg_ntug15, zg_ntug17, zg_ntug18, zg_ntug19, zg_ntug20, zg_ntug21, zg_ntug22, zg_ncon0, zg_ncon1, zg_ncon2, zg_ncon3, zg_ncon4, zg_ncon5, zg_ncon6, zg_nwin0, zg_nwin1, zg_nwin2, zg_nwin3, zg_nwin4, zg_nwin5, zg_ncode0, zg_ncode1, zg_ncode3, zg_nrule, zg_nstock, zg_nhold, zg_nknown, zg_nord, zg_nrep, zg_ncla, zg_ntou, zg_ncel, zu_nsun0, zu_nsun1, zu_nsun2, zu_nrock0, zu_nrock1, zu_nrock2, zu_nrock3, zu_nrock4, zu_nrock5, zu_nrock6, zu_nrock7, zu_nrock8, zu_nrock9, zu_nrock10, zu_nrock11, zu_nrock12, zu_nrock13, zu_nrock14, zu_ntug0, zu_ntug1, zu_ntug2, zu_ntug3, zu_ntug4, zu_ntug5, zu_ntug6, zu_ntug7, zu_ntug8, zu_ntug9, zu_ntug10, zu_ntug11, zu_ntug12, zu_ntug13, zu_ntug14, zu_ntug15, zu_ntug17, zu_ntug18, zu_ntug19, zu_ntug20, zu_ntug21, zu_ntug22, zu_ncon0, zu_ncon1, zu_ncon2, zu_ncon3, zu_ncon4, zu_ncon5, zu_ncon6, zu_nwin0, zu_nwin1, zu_nwin2, zu_nwin3, zu_nwin4, zu_nwin5, zu_ncode3, zu_nrule, zu_nstock, zu_nhold, zu_nknown, zu_nord, zu_nrep, zu_ncla, zu_ntou, zu_ncel]
    · have q2' : ¬ nI e = nI s.2.2.2.1 := fun h => q2 ((nI_eq (by omega) (by omega)).mp h)
      by_cases q3 : e < s.2.2.2.1
      · have q3' : ¬ nI s.2.2.2.1 ≤ nI e := nI_ge q3 (by omega)
        rw [if_pos q1, if_neg q2, decide_eq_true q3, if_pos rfl]
        simp +decide (disch := omega) only [e71_0, e71_8, e71_16, e71_20, e71_21, e71_22, e71_30, e71_38, e71_42, e71_43, e71_44, e71_51, e71_58, e71_61, e71_65, e71_66, e43_0, h2, h3, h5, h7, q1, q2', q3', Bool.false_eq_true, zpre, ite_self, zs1, zs2, zs3, zI_eqb, and_self, not_true_eq_false, if_true, if_false, ite_true, ite_false, not_false_eq_true, zBP, zBZ, zisO, zisA, zlen, decide_true, decide_false, Bool.and_self, Bool.and_true, Bool.true_and, cond_true, cond_false, zBG, zBR, zBU, zBV, zinb_n, zix_n, zlA, zlB, zlM, zlN, zlX, zlI, nI_add, Nat.add_eq_zero_iff, false_and, and_false, and_true, true_and, true_or, or_true, false_or, or_false, zbool_i, zb0, zb1, zshp_0, zcs_eq, zcs_n, zcs_cs, zup_g, zup_n, zp2_sun, zp2_rock, zp2_tug, zp2_contract, zp2_window, zp2_code, zp2_rbody, zp2_rstock, zp2_tfree, zp2_thold, zp2_tknown, zp2_ccells, zsh2_sun, zsh2_rock, zsh2_body, zsh2_stock, zsh2_tug, zsh2_free, zsh2_hold, zsh2_known, zsh2_contract, zsh2_window, zsh2_code, zsh2_cells, zg_nsun0, zg_nsun1, zg_nsun2, zg_nrock0, zg_nrock1, zg_nrock2, zg_nrock3, zg_nrock4, zg_nrock5, zg_nrock6, zg_nrock7, zg_nrock8, zg_nrock9, zg_nrock10, zg_nrock11, zg_nrock12, zg_nrock13, zg_nrock14, zg_ntug0, zg_ntug1, zg_ntug2, zg_ntug3, zg_ntug4, zg_ntug5, zg_ntug6, zg_ntug7, zg_ntug8, zg_ntug9, zg_ntug10, zg_ntug11, zg_ntug12, zg_ntug13, zg_ntug14, zg_ntug15, zg_ntug17, zg_ntug18, zg_ntug19, zg_ntug20, zg_ntug21, zg_ntug22, zg_ncon0, zg_ncon1, zg_ncon2, zg_ncon3, zg_ncon4, zg_ncon5, zg_ncon6, zg_nwin0, zg_nwin1, zg_nwin2, zg_nwin3, zg_nwin4, zg_nwin5, zg_ncode0, zg_ncode1, zg_ncode3, zg_nrule, zg_nstock, zg_nhold, zg_nknown, zg_nord, zg_nrep, zg_ncla, zg_ntou, zg_ncel, zu_nsun0, zu_nsun1, zu_nsun2, zu_nrock0, zu_nrock1, zu_nrock2, zu_nrock3, zu_nrock4, zu_nrock5, zu_nrock6, zu_nrock7, zu_nrock8, zu_nrock9, zu_nrock10, zu_nrock11, zu_nrock12, zu_nrock13, zu_nrock14, zu_ntug0, zu_ntug1, zu_ntug2, zu_ntug3, zu_ntug4, zu_ntug5, zu_ntug6, zu_ntug7, zu_ntug8, zu_ntug9, zu_ntug10, zu_ntug11, zu_ntug12, zu_ntug13, zu_ntug14, zu_ntug15, zu_ntug17, zu_ntug18, zu_ntug19, zu_ntug20, zu_ntug21, zu_ntug22, zu_ncon0, zu_ncon1, zu_ncon2, zu_ncon3, zu_ncon4, zu_ncon5, zu_ncon6, zu_nwin0, zu_nwin1, zu_nwin2, zu_nwin3, zu_nwin4, zu_nwin5, zu_ncode3, zu_nrule, zu_nstock, zu_nhold, zu_nknown, zu_nord, zu_nrep, zu_ncla, zu_ntou, zu_ncel]
      · have q3' : nI s.2.2.2.1 ≤ nI e := nI_le (by omega) (by omega)
        rw [if_pos q1, if_neg q2, decide_eq_false q3]
        simp +decide (disch := omega) only [e71_0, e71_8, e71_16, e71_20, e71_21, e71_22, e71_30, e71_38, e71_42, e71_43, e71_44, e71_51, e71_58, e71_61, e71_65, e71_66, e43_0, h2, h3, h5, h7, q1, q2', q3', Bool.false_eq_true, zpre, ite_self, zs1, zs2, zs3, zI_eqb, and_self, not_true_eq_false, if_true, if_false, ite_true, ite_false, not_false_eq_true, zBP, zBZ, zisO, zisA, zlen, decide_true, decide_false, Bool.and_self, Bool.and_true, Bool.true_and, cond_true, cond_false, zBG, zBR, zBU, zBV, zinb_n, zix_n, zlA, zlB, zlM, zlN, zlX, zlI, nI_add, Nat.add_eq_zero_iff, false_and, and_false, and_true, true_and, true_or, or_true, false_or, or_false, zbool_i, zb0, zb1, zshp_0, zcs_eq, zcs_n, zcs_cs, zup_g, zup_n, zp2_sun, zp2_rock, zp2_tug, zp2_contract, zp2_window, zp2_code, zp2_rbody, zp2_rstock, zp2_tfree, zp2_thold, zp2_tknown, zp2_ccells, zsh2_sun, zsh2_rock, zsh2_body, zsh2_stock, zsh2_tug, zsh2_free, zsh2_hold, zsh2_known, zsh2_contract, zsh2_window, zsh2_code, zsh2_cells, zg_nsun0, zg_nsun1, zg_nsun2, zg_nrock0, zg_nrock1, zg_nrock2, zg_nrock3, zg_nrock4, zg_nrock5, zg_nrock6, zg_nrock7, zg_nrock8, zg_nrock9, zg_nrock10, zg_nrock11, zg_nrock12, zg_nrock13, zg_nrock14, zg_ntug0, zg_ntug1, zg_ntug2, zg_ntug3, zg_ntug4, zg_ntug5, zg_ntug6, zg_ntug7, zg_ntug8, zg_ntug9, zg_ntug10, zg_ntug11, zg_ntug12, zg_ntug13, zg_ntug14, zg_ntug15, zg_ntug17, zg_ntug18, zg_ntug19, zg_ntug20, zg_ntug21, zg_ntug22, zg_ncon0, zg_ncon1, zg_ncon2, zg_ncon3, zg_ncon4, zg_ncon5, zg_ncon6, zg_nwin0, zg_nwin1, zg_nwin2, zg_nwin3, zg_nwin4, zg_nwin5, zg_ncode0, zg_ncode1, zg_ncode3, zg_nrule, zg_nstock, zg_nhold, zg_nknown, zg_nord, zg_nrep, zg_ncla, zg_ntou, zg_ncel, zu_nsun0, zu_nsun1, zu_nsun2, zu_nrock0, zu_nrock1, zu_nrock2, zu_nrock3, zu_nrock4, zu_nrock5, zu_nrock6, zu_nrock7, zu_nrock8, zu_nrock9, zu_nrock10, zu_nrock11, zu_nrock12, zu_nrock13, zu_nrock14, zu_ntug0, zu_ntug1, zu_ntug2, zu_ntug3, zu_ntug4, zu_ntug5, zu_ntug6, zu_ntug7, zu_ntug8, zu_ntug9, zu_ntug10, zu_ntug11, zu_ntug12, zu_ntug13, zu_ntug14, zu_ntug15, zu_ntug17, zu_ntug18, zu_ntug19, zu_ntug20, zu_ntug21, zu_ntug22, zu_ncon0, zu_ncon1, zu_ncon2, zu_ncon3, zu_ncon4, zu_ncon5, zu_ncon6, zu_nwin0, zu_nwin1, zu_nwin2, zu_nwin3, zu_nwin4, zu_nwin5, zu_ncode3, zu_nrule, zu_nstock, zu_nhold, zu_nknown, zu_nord, zu_nrep, zu_ncla, zu_ntou, zu_ncel]
  · by_cases q3 : s.2.2.1 < w
    · have q3' : ¬ w ≤ s.2.2.1 := Int32.not_le.mpr q3
      rw [if_neg q1, decide_eq_true q3, if_pos rfl]
      simp +decide (disch := omega) only [e71_0, e71_8, e71_16, e71_20, e71_21, e71_22, e71_30, e71_38, e71_42, e71_43, e71_44, e71_51, e71_58, e71_61, e71_65, e71_66, e43_0, h2, h3, h5, h7, q1, q3', Bool.false_eq_true, zpre, ite_self, zs1, zs2, zs3, zI_eqb, and_self, not_true_eq_false, if_true, if_false, ite_true, ite_false, not_false_eq_true, zBP, zBZ, zisO, zisA, zlen, decide_true, decide_false, Bool.and_self, Bool.and_true, Bool.true_and, cond_true, cond_false, zBG, zBR, zBU, zBV, zinb_n, zix_n, zlA, zlB, zlM, zlN, zlX, zlI, nI_add, Nat.add_eq_zero_iff, false_and, and_false, and_true, true_and, true_or, or_true, false_or, or_false, zbool_i, zb0, zb1, zshp_0, zcs_eq, zcs_n, zcs_cs, zup_g, zup_n, zp2_sun, zp2_rock, zp2_tug, zp2_contract, zp2_window, zp2_code, zp2_rbody, zp2_rstock, zp2_tfree, zp2_thold, zp2_tknown, zp2_ccells, zsh2_sun, zsh2_rock, zsh2_body, zsh2_stock, zsh2_tug, zsh2_free, zsh2_hold, zsh2_known, zsh2_contract, zsh2_window, zsh2_code, zsh2_cells, zg_nsun0, zg_nsun1, zg_nsun2, zg_nrock0, zg_nrock1, zg_nrock2, zg_nrock3, zg_nrock4, zg_nrock5, zg_nrock6, zg_nrock7, zg_nrock8, zg_nrock9, zg_nrock10, zg_nrock11, zg_nrock12, zg_nrock13, zg_nrock14, zg_ntug0, zg_ntug1, zg_ntug2, zg_ntug3, zg_ntug4, zg_ntug5, zg_ntug6, zg_ntug7, zg_ntug8, zg_ntug9, zg_ntug10, zg_ntug11, zg_ntug12, zg_ntug13, zg_ntug14, zg_ntug15, zg_ntug17, zg_ntug18, zg_ntug19, zg_ntug20, zg_ntug21, zg_ntug22, zg_ncon0, zg_ncon1, zg_ncon2, zg_ncon3, zg_ncon4, zg_ncon5, zg_ncon6, zg_nwin0, zg_nwin1, zg_nwin2, zg_nwin3, zg_nwin4, zg_nwin5, zg_ncode0, zg_ncode1, zg_ncode3, zg_nrule, zg_nstock, zg_nhold, zg_nknown, zg_nord, zg_nrep, zg_ncla, zg_ntou, zg_ncel, zu_nsun0, zu_nsun1, zu_nsun2, zu_nrock0, zu_nrock1, zu_nrock2, zu_nrock3, zu_nrock4, zu_nrock5, zu_nrock6, zu_nrock7, zu_nrock8, zu_nrock9, zu_nrock10, zu_nrock11, zu_nrock12, zu_nrock13, zu_nrock14, zu_ntug0, zu_ntug1, zu_ntug2, zu_ntug3, zu_ntug4, zu_ntug5, zu_ntug6, zu_ntug7, zu_ntug8, zu_ntug9, zu_ntug10, zu_ntug11, zu_ntug12, zu_ntug13, zu_ntug14, zu_ntug15, zu_ntug17, zu_ntug18, zu_ntug19, zu_ntug20, zu_ntug21, zu_ntug22, zu_ncon0, zu_ncon1, zu_ncon2, zu_ncon3, zu_ncon4, zu_ncon5, zu_ncon6, zu_nwin0, zu_nwin1, zu_nwin2, zu_nwin3, zu_nwin4, zu_nwin5, zu_ncode3, zu_nrule, zu_nstock, zu_nhold, zu_nknown, zu_nord, zu_nrep, zu_ncla, zu_ntou, zu_ncel]
    · have q3' : w ≤ s.2.2.1 := Int32.not_lt.mp q3
      rw [if_neg q1, decide_eq_false q3]
      simp +decide (disch := omega) only [e71_0, e71_8, e71_16, e71_20, e71_21, e71_22, e71_30, e71_38, e71_42, e71_43, e71_44, e71_51, e71_58, e71_61, e71_65, e71_66, e43_0, h2, h3, h5, h7, q1, q3', Bool.false_eq_true, zpre, ite_self, zs1, zs2, zs3, zI_eqb, and_self, not_true_eq_false, if_true, if_false, ite_true, ite_false, not_false_eq_true, zBP, zBZ, zisO, zisA, zlen, decide_true, decide_false, Bool.and_self, Bool.and_true, Bool.true_and, cond_true, cond_false, zBG, zBR, zBU, zBV, zinb_n, zix_n, zlA, zlB, zlM, zlN, zlX, zlI, nI_add, Nat.add_eq_zero_iff, false_and, and_false, and_true, true_and, true_or, or_true, false_or, or_false, zbool_i, zb0, zb1, zshp_0, zcs_eq, zcs_n, zcs_cs, zup_g, zup_n, zp2_sun, zp2_rock, zp2_tug, zp2_contract, zp2_window, zp2_code, zp2_rbody, zp2_rstock, zp2_tfree, zp2_thold, zp2_tknown, zp2_ccells, zsh2_sun, zsh2_rock, zsh2_body, zsh2_stock, zsh2_tug, zsh2_free, zsh2_hold, zsh2_known, zsh2_contract, zsh2_window, zsh2_code, zsh2_cells, zg_nsun0, zg_nsun1, zg_nsun2, zg_nrock0, zg_nrock1, zg_nrock2, zg_nrock3, zg_nrock4, zg_nrock5, zg_nrock6, zg_nrock7, zg_nrock8, zg_nrock9, zg_nrock10, zg_nrock11, zg_nrock12, zg_nrock13, zg_nrock14, zg_ntug0, zg_ntug1, zg_ntug2, zg_ntug3, zg_ntug4, zg_ntug5, zg_ntug6, zg_ntug7, zg_ntug8, zg_ntug9, zg_ntug10, zg_ntug11, zg_ntug12, zg_ntug13, zg_ntug14, zg_ntug15, zg_ntug17, zg_ntug18, zg_ntug19, zg_ntug20, zg_ntug21, zg_ntug22, zg_ncon0, zg_ncon1, zg_ncon2, zg_ncon3, zg_ncon4, zg_ncon5, zg_ncon6, zg_nwin0, zg_nwin1, zg_nwin2, zg_nwin3, zg_nwin4, zg_nwin5, zg_ncode0, zg_ncode1, zg_ncode3, zg_nrule, zg_nstock, zg_nhold, zg_nknown, zg_nord, zg_nrep, zg_ncla, zg_ntou, zg_ncel, zu_nsun0, zu_nsun1, zu_nsun2, zu_nrock0, zu_nrock1, zu_nrock2, zu_nrock3, zu_nrock4, zu_nrock5, zu_nrock6, zu_nrock7, zu_nrock8, zu_nrock9, zu_nrock10, zu_nrock11, zu_nrock12, zu_nrock13, zu_nrock14, zu_ntug0, zu_ntug1, zu_ntug2, zu_ntug3, zu_ntug4, zu_ntug5, zu_ntug6, zu_ntug7, zu_ntug8, zu_ntug9, zu_ntug10, zu_ntug11, zu_ntug12, zu_ntug13, zu_ntug14, zu_ntug15, zu_ntug17, zu_ntug18, zu_ntug19, zu_ntug20, zu_ntug21, zu_ntug22, zu_ncon0, zu_ncon1, zu_ncon2, zu_ncon3, zu_ncon4, zu_ncon5, zu_ncon6, zu_nwin0, zu_nwin1, zu_nwin2, zu_nwin3, zu_nwin4, zu_nwin5, zu_ncode3, zu_nrule, zu_nstock, zu_nhold, zu_nknown, zu_nord, zu_nrep, zu_ncla, zu_ntou, zu_ncel]
theorem zcoT (C : zCt) (n : Nat) : zcop (zI C) 196 0 198 0 n = zI (zcs C 398 (zfF (C 398) (fun f => C 396 0 f) 0 n)) := by
  rw [zI_set (C := C) (g := 398) (a := 198) (fun _ => rfl) (zfF (C 398) (fun f => C 396 0 f) 0 n) (fun i f h => if_neg fun e => h e.1)]
  funext x j
  unfold zcop
  by_cases e : x = 198
  · subst e
    rw [if_pos rfl]
    by_cases e2 : j < n
    · rw [if_pos ⟨rfl, by omega, by omega⟩, zfF_in (by omega), show 0 + (j - 0) = j by omega]
      rfl
    · rw [if_neg (by omega), zfF_out (by omega)]
      rfl
  · rw [if_neg e, if_neg (fun h => e h.1)]
theorem T72 (d L p0 p2 r2 r3 s4 many : Nat) (C : zCt) (w e : Int32) (hm : many ≤ 6) (hC : C 395 0 3 = nI many) : zR (d + 1) 72 0 [.ref 194, .int w, .int e] [] (zZ L, zI C, zPd p0 p2 r2 r3 s4) = some (none, (zZ L, zI (zcs (zcs (zcs C 397 (zup (C 397) 0 3 (nI many))) 398 (zfF (C 398) (fun f => C 396 0 f) 0 (many * 4))) 394 (zup (zup (C 394) 0 2 w) 0 3 e)), zPd p0 p2 r2 r3 s4)) := by
  have h1 : ¬ (6 : Int32) < nI many := nI_nlt (a := 6) (by omega) (by omega)
  have h2 : ¬ nI 24 < nI (many * 4) := nI_nlt (by omega) (by omega)
  have h3 : many * 4 ≤ 24 := by omega
  simp +decide (disch := omega) only [e72_0, e72_11, e46_0, hC, h1, h2, h3, zlt0, zcoT, Bool.true_or, Nat.zero_add, zpre, ite_self, zs1, zs2, zs3, zI_eqb, and_self, not_true_eq_false, if_true, if_false, ite_true, ite_false, not_false_eq_true, zBP, zBZ, zisO, zisA, zlen, decide_true, decide_false, Bool.and_self, Bool.and_true, Bool.true_and, cond_true, cond_false, zBG, zBR, zBU, zBV, zinb_n, zix_n, zlA, zlB, zlM, zlN, zlX, zlI, nI_add, Nat.add_eq_zero_iff, false_and, and_false, and_true, true_and, true_or, or_true, false_or, or_false, zbool_i, zb0, zb1, zshp_0, zcs_eq, zcs_n, zcs_cs, zup_g, zup_n, zp2_sun, zp2_rock, zp2_tug, zp2_contract, zp2_window, zp2_code, zp2_rbody, zp2_rstock, zp2_tfree, zp2_thold, zp2_tknown, zp2_ccells, zsh2_sun, zsh2_rock, zsh2_body, zsh2_stock, zsh2_tug, zsh2_free, zsh2_hold, zsh2_known, zsh2_contract, zsh2_window, zsh2_code, zsh2_cells, zg_nsun0, zg_nsun1, zg_nsun2, zg_nrock0, zg_nrock1, zg_nrock2, zg_nrock3, zg_nrock4, zg_nrock5, zg_nrock6, zg_nrock7, zg_nrock8, zg_nrock9, zg_nrock10, zg_nrock11, zg_nrock12, zg_nrock13, zg_nrock14, zg_ntug0, zg_ntug1, zg_ntug2, zg_ntug3, zg_ntug4, zg_ntug5, zg_ntug6, zg_ntug7, zg_ntug8, zg_ntug9, zg_ntug10, zg_ntug11, zg_ntug12, zg_ntug13, zg_ntug14, zg_ntug15, zg_ntug17, zg_ntug18, zg_ntug19, zg_ntug20, zg_ntug21, zg_ntug22, zg_ncon0, zg_ncon1, zg_ncon2, zg_ncon3, zg_ncon4, zg_ncon5, zg_ncon6, zg_nwin0, zg_nwin1, zg_nwin2, zg_nwin3, zg_nwin4, zg_nwin5, zg_ncode0, zg_ncode1, zg_ncode3, zg_nrule, zg_nstock, zg_nhold, zg_nknown, zg_nord, zg_nrep, zg_ncla, zg_ntou, zg_ncel, zu_nsun0, zu_nsun1, zu_nsun2, zu_nrock0, zu_nrock1, zu_nrock2, zu_nrock3, zu_nrock4, zu_nrock5, zu_nrock6, zu_nrock7, zu_nrock8, zu_nrock9, zu_nrock10, zu_nrock11, zu_nrock12, zu_nrock13, zu_nrock14, zu_ntug0, zu_ntug1, zu_ntug2, zu_ntug3, zu_ntug4, zu_ntug5, zu_ntug6, zu_ntug7, zu_ntug8, zu_ntug9, zu_ntug10, zu_ntug11, zu_ntug12, zu_ntug13, zu_ntug14, zu_ntug15, zu_ntug17, zu_ntug18, zu_ntug19, zu_ntug20, zu_ntug21, zu_ntug22, zu_ncon0, zu_ncon1, zu_ncon2, zu_ncon3, zu_ncon4, zu_ncon5, zu_ncon6, zu_nwin0, zu_nwin1, zu_nwin2, zu_nwin3, zu_nwin4, zu_nwin5, zu_ncode3, zu_nrule, zu_nstock, zu_nhold, zu_nknown, zu_nord, zu_nrep, zu_ncla, zu_ntou, zu_ncel]

