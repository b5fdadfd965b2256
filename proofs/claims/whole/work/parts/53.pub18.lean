/-! BODIES THAT DRIFT, printed by wip/gen/pub18.py -/
theorem e227_28v (d : Nat) (Z : List (Nat × Nat)) (I : Nat → Nat → Int32) (P : Nat → Nat → Nat) (r0 : Nat) (x1 x2 x7 : Int32) (l3 l5 : Int64) (v4 v6 v11 v12 v13 : Value) (v8 : Value) (v9 : Value) (v10 : Value) : zR d 227 28 [.ref r0, .int x1, .int x2, .long l3, v4, .long l5, v6, .int x7, v8, v9, v10, v11, v12, v13] [] (Z, I, P) = bif ((zisO Z r0 12 && decide (¬ P r0 0 = 0)) && ((zisA Z (P r0 0) 1 && zinb 4 (zlen Z (P r0 0))) && (true))) then (if (I (P r0 0) (zix 4)) ≤ x7 then zR d 227 172 [.ref r0, .int x1, .int x2, .long l3, v4, .long l5, v6, .int x7, v8, v9, v10, v11, v12, v13] [] (Z, I, P) else zR d 227 39 [.ref r0, .int x1, .int x2, .long l3, v4, .long l5, v6, .int x7, v8, v9, v10, v11, v12, v13] [] (Z, I, P)) else none := zE_br (g := ((zisO Z r0 12 && decide (¬ P r0 0 = 0)) && ((zisA Z (P r0 0) 1 && zinb 4 (zlen Z (P r0 0))) && (true)))) (p := (I (P r0 0) (zix 4)) ≤ x7) (t := 172) (f := 39) zK227 rfl zi227 22 6 rfl
theorem e225_2v (d : Nat) (Z : List (Nat × Nat)) (I : Nat → Nat → Int32) (P : Nat → Nat → Nat) (r0 : Nat) (x1 : Int32) (v2 : Value) : zR d 225 2 [.ref r0, .int x1, v2] [] (Z, I, P) = bif ((zisO Z r0 12 && decide (¬ P r0 0 = 0)) && ((zisA Z (P r0 0) 1 && zinb 5 (zlen Z (P r0 0))) && (true))) then (if (I (P r0 0) (zix 5)) ≤ x1 then zR d 225 57 [.ref r0, .int x1, v2] [] (Z, I, P) else zR d 225 12 [.ref r0, .int x1, v2] [] (Z, I, P)) else none := zE_br (g := ((zisO Z r0 12 && decide (¬ P r0 0 = 0)) && ((zisA Z (P r0 0) 1 && zinb 5 (zlen Z (P r0 0))) && (true)))) (p := (I (P r0 0) (zix 5)) ≤ x1) (t := 57) (f := 12) zK225 rfl zi225 2 6 rfl
theorem e225_59v (d : Nat) (Z : List (Nat × Nat)) (I : Nat → Nat → Int32) (P : Nat → Nat → Nat) (r0 : Nat) (x1 : Int32) (v2 : Value) : zR d 225 59 [.ref r0, .int x1, v2] [] (Z, I, P) = bif ((zisO Z r0 12 && decide (¬ P r0 0 = 0)) && ((zisA Z (P r0 0) 1 && zinb 6 (zlen Z (P r0 0))) && (true))) then (if (I (P r0 0) (zix 6)) ≤ x1 then zR d 225 119 [.ref r0, .int x1, v2] [] (Z, I, P) else zR d 225 70 [.ref r0, .int x1, v2] [] (Z, I, P)) else none := zE_br (g := ((zisO Z r0 12 && decide (¬ P r0 0 = 0)) && ((zisA Z (P r0 0) 1 && zinb 6 (zlen Z (P r0 0))) && (true)))) (p := (I (P r0 0) (zix 6)) ≤ x1) (t := 119) (f := 70) zK225 rfl zi225 39 6 rfl
abbrev zQ : Type := Int32 × Int32 × Int32 × Int32
def zpl (s : Nat → Int32) (x y : Int32) (q : Int32 × Int32) : Int32 × Int32 := if (zfar (s 0 - x) (s 1 - y)).toInt64 = 0 then q else (zheld (q.1.toInt64 + (s 2).toInt64 * 1000 * (s 0 - x).toInt64 / ((zfar (s 0 - x) (s 1 - y)).toInt64 * (zfar (s 0 - x) (s 1 - y)).toInt64)) (-9999999) 9999999, zheld (q.2.toInt64 + (s 2).toInt64 * 1000 * (s 1 - y).toInt64 / ((zfar (s 0 - x) (s 1 - y)).toInt64 * (zfar (s 0 - x) (s 1 - y)).toInt64)) (-9999999) 9999999)
def zpls (S : zGp) (x y : Int32) : Nat → Nat → Int32 × Int32 → Int32 × Int32
  | 0, _, q => q
  | m + 1, k, q => zpls S x y m (k + 1) (zpl (S k) x y q)
def zmv (x u : Int32) : Int32 := zheld (x + u).toInt64 (-9999999) 9999999
def zdr (S : zGp) (n : Nat) (b : zQ) : zQ := (zmv b.1 (zpls S b.1 b.2.1 n 0 b.2.2).1, zmv b.2.1 (zpls S b.1 b.2.1 n 0 b.2.2).2, (zpls S b.1 b.2.1 n 0 b.2.2).1, (zpls S b.1 b.2.1 n 0 b.2.2).2)
def zBq (b : zQ) : Prop := zB b.1 ∧ zB b.2.1 ∧ zB b.2.2.1 ∧ zB b.2.2.2
theorem zpl_B (s : Nat → Int32) (x y : Int32) {q : Int32 × Int32} (h : zB q.1 ∧ zB q.2) : zB (zpl s x y q).1 ∧ zB (zpl s x y q).2 := by
  unfold zpl
  split
  · exact h
  · exact ⟨zheld_B _, zheld_B _⟩
theorem zpls_B (S : zGp) (x y : Int32) : ∀ (m k : Nat) (q : Int32 × Int32), zB q.1 ∧ zB q.2 → zB (zpls S x y m k q).1 ∧ zB (zpls S x y m k q).2 := by
  intro m
  induction m with
  | zero => intro k q h; exact h
  | succ m ih => intro k q h; exact ih (k + 1) _ (zpl_B _ _ _ h)
theorem zdr_B (S : zGp) (n : Nat) {b : zQ} (h : zBq b) : zBq (zdr S n b) := ⟨zheld_B _, zheld_B _, (zpls_B S _ _ n 0 b.2.2 h.2.2).1, (zpls_B S _ _ n 0 b.2.2 h.2.2).2⟩
theorem zpl_c {s s' : Nat → Int32} (h : ∀ f, f < 3 → s f = s' f) (x y : Int32) (q : Int32 × Int32) : zpl s x y q = zpl s' x y q := by
  unfold zpl
  rw [h 0 (by decide), h 1 (by decide), h 2 (by decide)]
theorem zpls_c {S S' : zGp} (x y : Int32) : ∀ (m k : Nat) (q : Int32 × Int32), (∀ i, k ≤ i → i < k + m → ∀ f, f < 3 → S i f = S' i f) → zpls S x y m k q = zpls S' x y m k q := by
  intro m
  induction m with
  | zero => intro k q h; rfl
  | succ m ih =>
    intro k q h
    unfold zpls
    rw [zpl_c (h k (by omega) (by omega)), ih (k + 1) _ (fun i h1 h2 => h i (by omega) (by omega))]
theorem zdr_c {S S' : zGp} {n : Nat} (h : ∀ i, i < n → ∀ f, f < 3 → S i f = S' i f) (b : zQ) : zdr S n b = zdr S' n b := by
  unfold zdr
  rw [zpls_c b.1 b.2.1 n 0 b.2.2 (fun i _ h2 => h i (by omega))]
theorem zsq64 (l : Int32) (h : ¬ l.toInt64 = 0) : ¬ l.toInt64 * l.toInt64 = 0 := by
  intro e
  have h1 := Int32.le_toInt l
  have h2 := Int32.toInt_lt l
  have h0 : l.toInt ≠ 0 := by
    intro q
    apply h
    apply Int64.toInt_inj.mp
    rw [Int32.toInt_toInt64, q]; rfl
  have e2 := congrArg Int64.toInt e
  rw [Int64.toInt_mul, Int32.toInt_toInt64] at e2
  have hn : l.toInt * l.toInt = ((l.toInt.natAbs * l.toInt.natAbs : Nat) : Int) := (Int.natAbs_mul_self).symm
  have hb : l.toInt.natAbs ≤ 2147483648 := by omega
  have hb1 : 1 ≤ l.toInt.natAbs := by omega
  have hb2 : l.toInt.natAbs * l.toInt.natAbs ≤ 2147483648 * 2147483648 := Nat.mul_le_mul hb hb
  have hb3 : 1 * 1 ≤ l.toInt.natAbs * l.toInt.natAbs := Nat.mul_le_mul hb1 hb1
  rw [hn] at e2
  have z : (0 : Int64).toInt = 0 := rfl
  rw [z] at e2
  revert e2 hb2 hb3
  generalize l.toInt.natAbs * l.toInt.natAbs = w
  intro e2 hb2 hb3
  unfold Int.bmod at e2
  dsimp only at e2
  split at e2 <;> omega
theorem zadd64 {x u : Int32} (hx : zB x) (hu : zB u) : (x + u).toInt64 = x.toInt64 + u.toInt64 := by
  have a1 := Int32.le_iff_toInt_le.mp hx.1
  have a2 := Int32.le_iff_toInt_le.mp hx.2
  have a3 := Int32.le_iff_toInt_le.mp hu.1
  have a4 := Int32.le_iff_toInt_le.mp hu.2
  have b1 : (9999999 : Int32).toInt = 9999999 := rfl
  have b2 : (-9999999 : Int32).toInt = -9999999 := rfl
  rw [b1] at a2 a4
  rw [b2] at a1 a3
  apply Int64.toInt_inj.mp
  rw [lg_i2l_add, Int32.toInt_toInt64, Int32.toInt_add]
  unfold Int.bmod
  dsimp only
  split <;> omega
theorem zup_s2 (I : Nat → Nat → Int32) (a i j : Nat) : zup (zup I a i (I a i)) a j (I a j) = I := by
  funext x k
  unfold zup
  by_cases h : x = a ∧ k = j
  · rw [if_pos h, h.1, h.2]
  · rw [if_neg h]
    by_cases h2 : x = a ∧ k = i
    · rw [if_pos h2, h2.1, h2.2]
    · rw [if_neg h2]
theorem zup_44 (I : Nat → Nat → Int32) (a : Nat) (p q r s : Int32) : zup (zup (zup (zup I a 2 p) a 3 q) a 2 r) a 3 s = zup (zup I a 2 r) a 3 s := by
  funext x k
  unfold zup
  by_cases h : x = a ∧ k = 3
  · simp only [if_pos h]
  · simp only [if_neg h]
    by_cases h2 : x = a ∧ k = 2
    · simp only [if_pos h2]
    · simp only [if_neg h2]
theorem T75 (d : Nat) (Z : List (Nat × Nat)) (I : Nat → Nat → Int32) (P : Nat → Nat → Nat) (rs rb : Nat) (hs : zisO Z rs 7 = true) (hb : zisO Z rb 0 = true) (hne : rs ≠ rb) : zR (d + 3) 75 0 [.ref rs, .ref rb, zmk, zmk, zmk, zmk] [] (Z, I, P) = some (none, (Z, zup (zup I rb 2 (zpl (I rs) (I rb 0) (I rb 1) (I rb 2, I rb 3)).1) rb 3 (zpl (I rs) (I rb 0) (I rb 1) (I rb 2, I rb 3)).2, P)) := by
  unfold zpl
  by_cases h : (zfar (I rs 0 - I rb 0) (I rs 1 - I rb 1)).toInt64 = 0
  · rw [if_pos h, zup_s2]
    simp +decide (disch := omega) only [e75_0, e75_12, e75_20, T2, hs, hb, lg_cmp_eq, h, zs1, zs2, zs3, and_self, not_true_eq_false, if_true, if_false, ite_true, ite_false, not_false_eq_true, decide_true, decide_false, Bool.and_self, Bool.and_true, Bool.true_and, cond_true, cond_false]
  · have h2 := zsq64 _ h
    rw [if_neg h]
    simp +decide (disch := omega) only [e75_0, e75_12, e75_21, e75_70, T2, hs, hb, lg_cmp_eq, h, h2, e4_0, e4_15, e4_33, T129, zup_n, zs1, zs2, zs3, and_self, not_true_eq_false, if_true, if_false, ite_true, ite_false, not_false_eq_true, decide_true, decide_false, Bool.and_self, Bool.and_true, Bool.true_and, cond_true, cond_false]
theorem T6 (d : Nat) (Z : List (Nat × Nat)) (I : Nat → Nat → Int32) (P : Nat → Nat → Nat) (rb : Nat) (hb : zisO Z rb 0 = true) : zR (d + 2) 6 0 [.ref rb] [] (Z, I, P) = some (none, (Z, zup (zup I rb 0 (zmv (I rb 0) (I rb 2))) rb 1 (zmv (I rb 1) (I rb 3)), P)) := by
  unfold zmv
  simp +decide (disch := omega) only [e6_0, e6_18, e6_39, hb, T129, zup_n, zs1, zs2, zs3, and_self, not_true_eq_false, if_true, if_false, ite_true, ite_false, not_false_eq_true, decide_true, decide_false, Bool.and_self, Bool.and_true, Bool.true_and, cond_true, cond_false]
theorem T5 (d : Nat) (Z : List (Nat × Nat)) (I : Nat → Nat → Int32) (P : Nat → Nat → Nat) (ra rb : Nat) (ha : zisO Z ra 0 = true) (hb : zisO Z rb 0 = true) (hne : rb ≠ ra) : zR d 5 0 [.ref ra, .ref rb] [] (Z, I, P) = some (none, (Z, zup (zup (zup (zup I ra 0 (I rb 0)) ra 1 (I rb 1)) ra 2 (I rb 2)) ra 3 (I rb 3), P)) := by
  simp +decide (disch := omega) only [e5_0, ha, hb, zup_n, zs1, zs2, zs3, and_self, not_true_eq_false, if_true, if_false, ite_true, ite_false, not_false_eq_true, decide_true, decide_false, Bool.and_self, Bool.and_true, Bool.true_and, cond_true, cond_false]
theorem T98_2 (d L p0 p2 r2 r3 s4 n rb : Nat) (hn : n ≤ 3) (hb : zisO (zZ L) rb 0 = true) (hr : rb ≠ 2 ∧ rb ≠ 18 ∧ rb ≠ 19 ∧ rb ≠ 20) : ∀ (m k : Nat) (I : Nat → Nat → Int32), I 2 5 = nI n → k + m = n → zR (d + 4) 98 2 [.ref 2, .ref rb, .int (nI k)] [] (zZ L, I, zPd p0 p2 r2 r3 s4) = zR (d + 4) 98 26 [.ref 2, .ref rb, .int (nI n)] [] (zZ L, zup (zup I rb 2 (zpls (fun k f => I (18 + k) f) (I rb 0) (I rb 1) m k (I rb 2, I rb 3)).1) rb 3 (zpls (fun k f => I (18 + k) f) (I rb 0) (I rb 1) m k (I rb 2, I rb 3)).2, zPd p0 p2 r2 r3 s4) := by
  intro m
  induction m with
  | zero =>
    intro k I hI hk
    have hk : k = n := by omega
    subst hk
    have h1 : nI k ≤ nI k := Int32.le_refl _
    unfold zpls
    rw [zup_s2, e98_2]
    simp +decide (disch := omega) only [hI, h1, zs1, zs2, zs3, zI_eqb, and_self, not_true_eq_false, if_true, if_false, ite_true, ite_false, not_false_eq_true, zBP, zBZ, zisO, zisA, zlen, decide_true, decide_false, Bool.and_self, Bool.and_true, Bool.true_and, cond_true, cond_false, zBG, zBR, zBU, zBV, zinb_n, zix_n, zlA, zlB, zlM, zlN, zlX, zlI, nI_add, Nat.add_eq_zero_iff, false_and, and_false, and_true, true_and, true_or, or_true, false_or, or_false, zbool_i, zb0, zb1, zshp_0, zcs_eq, zcs_n, zcs_cs, zup_g, zup_n]
  | succ m ih =>
    intro k I hI hk
    have hge : ¬ nI n ≤ nI k := nI_ge (by omega) (by omega)
    have hk3 : k < 3 := by omega
    have hs : zisO (zZ L) (18 + k) 7 = true := by
      have := zsh2_sun L hk3
      unfold zisO
      rw [this]; rfl
    have h75 := T75 d (zZ L) I (zPd p0 p2 r2 r3 s4) (18 + k) rb hs hb (by omega)
    obtain ⟨q, hq⟩ : ∃ q, q = zpl (I (18 + k)) (I rb 0) (I rb 1) (I rb 2, I rb 3) := ⟨_, rfl⟩
    rw [← hq] at h75
    rw [e98_2]
    simp +decide (disch := omega) only [hI, hge, e98_10, e98_20, hs, hb, h75, zp2_sun, zsh2_sun, zs1, zs2, zs3, zI_eqb, and_self, not_true_eq_false, if_true, if_false, ite_true, ite_false, not_false_eq_true, zBP, zBZ, zisO, zisA, zlen, decide_true, decide_false, Bool.and_self, Bool.and_true, Bool.true_and, cond_true, cond_false, zBG, zBR, zBU, zBV, zinb_n, zix_n, zlA, zlB, zlM, zlN, zlX, zlI, nI_add, Nat.add_eq_zero_iff, false_and, and_false, and_true, true_and, true_or, or_true, false_or, or_false, zbool_i, zb0, zb1, zshp_0, zcs_eq, zcs_n, zcs_cs, zup_g, zup_n]
    rw [ih (k + 1) (zup (zup I rb 2 q.1) rb 3 q.2) (by simp (disch := omega) only [zup_n]; exact hI) (by omega)]
    have e1 : zup (zup I rb 2 q.1) rb 3 q.2 rb 0 = I rb 0 := by simp (disch := omega) only [zup_n]
    have e2 : zup (zup I rb 2 q.1) rb 3 q.2 rb 1 = I rb 1 := by simp (disch := omega) only [zup_n]
    have e3 : zup (zup I rb 2 q.1) rb 3 q.2 rb 2 = q.1 := by simp (disch := omega) only [zup_n, zup_g]
    have e4 : zup (zup I rb 2 q.1) rb 3 q.2 rb 3 = q.2 := by simp (disch := omega) only [zup_g]
    have hz : zpls (fun k f => I (18 + k) f) (I rb 0) (I rb 1) (m + 1) k (I rb 2, I rb 3) = zpls (fun k f => I (18 + k) f) (I rb 0) (I rb 1) m (k + 1) q := by rw [hq]; rfl
    rw [e1, e2, e3, e4, zup_44, hz, zpls_c (S' := fun k f => I (18 + k) f) (I rb 0) (I rb 1) m (k + 1) (q.1, q.2) (fun i h1 h2 f hf => by simp (disch := omega) only [zup_n])]
theorem T98 (d L p0 p2 r2 r3 s4 n rb : Nat) (I : Nat → Nat → Int32) (hn : n ≤ 3) (hb : zisO (zZ L) rb 0 = true) (hr : rb ≠ 2 ∧ rb ≠ 18 ∧ rb ≠ 19 ∧ rb ≠ 20) (hI : I 2 5 = nI n) : zR (d + 4) 98 0 [.ref 2, .ref rb, zmk] [] (zZ L, I, zPd p0 p2 r2 r3 s4) = some (none, (zZ L, zup (zup (zup (zup I rb 2 (zdr (fun k f => I (18 + k) f) n (I rb 0, I rb 1, I rb 2, I rb 3)).2.2.1) rb 3 (zdr (fun k f => I (18 + k) f) n (I rb 0, I rb 1, I rb 2, I rb 3)).2.2.2) rb 0 (zdr (fun k f => I (18 + k) f) n (I rb 0, I rb 1, I rb 2, I rb 3)).1) rb 1 (zdr (fun k f => I (18 + k) f) n (I rb 0, I rb 1, I rb 2, I rb 3)).2.1, zPd p0 p2 r2 r3 s4)) := by
  have h := T98_2 d L p0 p2 r2 r3 s4 n rb hn hb hr n 0 I hI (by omega)
  rw [zn0] at h
  rw [e98_0, h]
  have h6 := T6 (d + 1) (zZ L) (zup (zup I rb 2 (zpls (fun k f => I (18 + k) f) (I rb 0) (I rb 1) n 0 (I rb 2, I rb 3)).1) rb 3 (zpls (fun k f => I (18 + k) f) (I rb 0) (I rb 1) n 0 (I rb 2, I rb 3)).2) (zPd p0 p2 r2 r3 s4) rb hb
  simp (disch := omega) only [zup_n, zup_g] at h6
  have hb' : zshp (zZ L) rb = (0, 0) := by unfold zisO at hb; exact of_decide_eq_true hb
  simp +decide (disch := omega) only [e98_26, e98_30, hb', h6, zs1, zs2, zs3, zI_eqb, and_self, not_true_eq_false, if_true, if_false, ite_true, ite_false, not_false_eq_true, zBP, zBZ, zisO, zisA, zlen, decide_true, decide_false, Bool.and_self, Bool.and_true, Bool.true_and, cond_true, cond_false, zBG, zBR, zBU, zBV, zinb_n, zix_n, zlA, zlB, zlM, zlN, zlX, zlI, nI_add, Nat.add_eq_zero_iff, false_and, and_false, and_true, true_and, true_or, or_true, false_or, or_false, zbool_i, zb0, zb1, zshp_0, zcs_eq, zcs_n, zcs_cs, zup_g, zup_n]
  rfl
def zbd (a : zGp) (i o : Nat) (q : zQ) : zGp := zup (zup (zup (zup a i (o + 2) q.2.2.1) i (o + 3) q.2.2.2) i o q.1) i (o + 1) q.2.1
def zqd (a : Nat → Int32) (o : Nat) : zQ := (a o, a (o + 1), a (o + 2), a (o + 3))
theorem zbd_q (a : zGp) (i o : Nat) (q : zQ) : zqd (zbd a i o q i) o = q := by
  unfold zqd zbd
  simp (disch := omega) only [zup_g, zup_n]
theorem zbd_o (a : zGp) {i o j f : Nat} (q : zQ) (h : ¬ (j = i ∧ o ≤ f ∧ f < o + 4)) : zbd a i o q j f = a j f := by
  unfold zbd
  simp (disch := omega) only [zup_n]
theorem zbd_qo (a : zGp) {i o j p : Nat} (q : zQ) (h : j ≠ i ∨ o + 4 ≤ p ∨ p + 4 ≤ o) : zqd (zbd a i o q j) p = zqd (a j) p := by
  unfold zqd
  rw [zbd_o _ _ (by omega), zbd_o _ _ (by omega), zbd_o _ _ (by omega), zbd_o _ _ (by omega)]
theorem zbd_row {a : zGp} {i o j : Nat} {q : zQ} (h : j ≠ i) : zbd a i o q j = a j := by
  funext f
  exact zbd_o _ _ (fun e => h e.1)
theorem T98r (d L p0 p2 r2 r3 s4 n : Nat) (C : zCt) {i : Nat} (hi : i < 8) (hn : n ≤ 3) (hC : C 0 0 4 = nI n) : zR (d + 4) 98 0 [.ref 2, .ref (22 + 3 * i), zmk] [] (zZ L, zI C, zPd p0 p2 r2 r3 s4) = some (none, (zZ L, zI (zcs C 2 (zbd (C 2) i 1 (zdr (C 1) n (zqd (C 2 i) 1)))), zPd p0 p2 r2 r3 s4)) := by
  have zZb : zisO (zZ L) (22 + 3 * i) 0 = true := by
    unfold zisO
    rw [zsh2_body L hi]; rfl
  have hz : ∀ b, zdr (fun k f => zI C (18 + k) f) n b = zdr (C 1) n b := fun b => zdr_c (fun k hk f hf => by
    rcases (show f = 0 ∨ f = 1 ∨ f = 2 by omega) with rfl | rfl | rfl
    · exact zg_nsun0 C (by omega)
    · exact zg_nsun1 C (by omega)
    · exact zg_nsun2 C (by omega)) b
  rw [T98 d L p0 p2 r2 r3 s4 n (22 + 3 * i) (zI C) hn zZb (by omega) (by simp only [zBG]; exact hC)]
  unfold zbd zqd
  simp (disch := omega) only [hz, zg_nrock1, zg_nrock2, zg_nrock3, zg_nrock4, zu_nrock1, zu_nrock2, zu_nrock3, zu_nrock4, zcs_eq, zcs_cs, Nat.reduceAdd]
theorem T98t (d L p0 p2 r2 r3 s4 n : Nat) (C : zCt) {i : Nat} (hi : i < 4) (hn : n ≤ 3) (hC : C 0 0 4 = nI n) : zR (d + 4) 98 0 [.ref 2, .ref (46 + 4 * i), zmk] [] (zZ L, zI C, zPd p0 p2 r2 r3 s4) = some (none, (zZ L, zI (zcs C 3 (zbd (C 3) i 1 (zdr (C 1) n (zqd (C 3 i) 1)))), zPd p0 p2 r2 r3 s4)) := by
  have zZb : zisO (zZ L) (46 + 4 * i) 0 = true := by
    unfold zisO
    rw [zsh2_free L hi]; rfl
  have hz : ∀ b, zdr (fun k f => zI C (18 + k) f) n b = zdr (C 1) n b := fun b => zdr_c (fun k hk f hf => by
    rcases (show f = 0 ∨ f = 1 ∨ f = 2 by omega) with rfl | rfl | rfl
    · exact zg_nsun0 C (by omega)
    · exact zg_nsun1 C (by omega)
    · exact zg_nsun2 C (by omega)) b
  rw [T98 d L p0 p2 r2 r3 s4 n (46 + 4 * i) (zI C) hn zZb (by omega) (by simp only [zBG]; exact hC)]
  unfold zbd zqd
  simp (disch := omega) only [hz, zg_ntug1, zg_ntug2, zg_ntug3, zg_ntug4, zu_ntug1, zu_ntug2, zu_ntug3, zu_ntug4, zcs_eq, zcs_cs, Nat.reduceAdd]
theorem T98g (d L p0 p2 r2 r3 s4 n : Nat) (C : zCt)  (hn : n ≤ 3) (hC : C 0 0 4 = nI n) : zR (d + 4) 98 0 [.ref 2, .ref 199, zmk] [] (zZ L, zI C, zPd p0 p2 r2 r3 s4) = some (none, (zZ L, zI (zcs C 399 (zbd (C 399) 0 0 (zdr (C 1) n (zqd (C 399 0) 0)))), zPd p0 p2 r2 r3 s4)) := by
  have zZb : zisO (zZ L) 199 0 = true := rfl
  have hz : ∀ b, zdr (fun k f => zI C (18 + k) f) n b = zdr (C 1) n b := fun b => zdr_c (fun k hk f hf => by
    rcases (show f = 0 ∨ f = 1 ∨ f = 2 by omega) with rfl | rfl | rfl
    · exact zg_nsun0 C (by omega)
    · exact zg_nsun1 C (by omega)
    · exact zg_nsun2 C (by omega)) b
  rw [T98 d L p0 p2 r2 r3 s4 n 199 (zI C) hn zZb (by omega) (by simp only [zBG]; exact hC)]
  unfold zbd zqd
  simp (disch := omega) only [hz, zBR, zBV, zcs_eq, zcs_cs, Nat.reduceAdd]
theorem T98h (d L p0 p2 r2 r3 s4 n : Nat) (C : zCt)  (hn : n ≤ 3) (hC : C 0 0 4 = nI n) : zR (d + 4) 98 0 [.ref 2, .ref 200, zmk] [] (zZ L, zI C, zPd p0 p2 r2 r3 s4) = some (none, (zZ L, zI (zcs C 400 (zbd (C 400) 0 0 (zdr (C 1) n (zqd (C 400 0) 0)))), zPd p0 p2 r2 r3 s4)) := by
  have zZb : zisO (zZ L) 200 0 = true := rfl
  have hz : ∀ b, zdr (fun k f => zI C (18 + k) f) n b = zdr (C 1) n b := fun b => zdr_c (fun k hk f hf => by
    rcases (show f = 0 ∨ f = 1 ∨ f = 2 by omega) with rfl | rfl | rfl
    · exact zg_nsun0 C (by omega)
    · exact zg_nsun1 C (by omega)
    · exact zg_nsun2 C (by omega)) b
  rw [T98 d L p0 p2 r2 r3 s4 n 200 (zI C) hn zZb (by omega) (by simp only [zBG]; exact hC)]
  unfold zbd zqd
  simp (disch := omega) only [hz, zBR, zBV, zcs_eq, zcs_cs, Nat.reduceAdd]
theorem zk1000 (a : Int64) : (1000 : Int64) * a = a * 1000 := Int64.mul_comm _ _
theorem T227_28 (d L p0 p2 r2 r3 s4 n b : Nat) (C : zCt) (x1 : Int32) (hb : b < 12) (hn3 : n ≤ 3) (hn : C 40 0 4 = nI n) (hB : zB (C 411 0 (4 * b)) ∧ zB (C 411 0 (4 * b + 1))) : ∀ (m k : Nat) (u v : Int32) (v4 v6 v8 v9 v10 v11 v12 v13 : Value), k + m = n → zB u ∧ zB v → zR (d + 3) 227 28 [.ref 201, .int x1, .int (nI (4 * b)), .long u.toInt64, v4, .long v.toInt64, v6, .int (nI k), v8, v9, v10, v11, v12, v13] [] (zZ L, zI C, zPd p0 p2 r2 r3 s4) = some (none, (zZ L, zI (zcs C 411 (zbd (C 411) 0 (4 * b) (zmv (C 411 0 (4 * b)) (zpls (C 41) (C 411 0 (4 * b)) (C 411 0 (4 * b + 1)) m k (u, v)).1, zmv (C 411 0 (4 * b + 1)) (zpls (C 41) (C 411 0 (4 * b)) (C 411 0 (4 * b + 1)) m k (u, v)).2, zpls (C 41) (C 411 0 (4 * b)) (C 411 0 (4 * b + 1)) m k (u, v)))), zPd p0 p2 r2 r3 s4)) := by
  intro m
  induction m with
  | zero =>
    intro k u v v4 v6 v8 v9 v10 v11 v12 v13 hk hB2
    have hk : k = n := by omega
    subst hk
    have h1 : nI k ≤ nI k := Int32.le_refl _
    have a1 := zadd64 hB.1 hB2.1
    have a2 := zadd64 hB.2 hB2.2
    unfold zpls zbd zmv
    rw [e227_28v, a1, a2]
    simp +decide (disch := omega) only [e227_172, e227_210, e227_233, hn, h1, T215, lg_l2i_i2l, zpre, ite_self, Nat.reduceAdd, zs1, zs2, zs3, zI_eqb, and_self, not_true_eq_false, if_true, if_false, ite_true, ite_false, not_false_eq_true, zBP, zBZ, zisO, zisA, zlen, decide_true, decide_false, Bool.and_self, Bool.and_true, Bool.true_and, cond_true, cond_false, zBG, zBR, zBU, zBV, zinb_n, zix_n, zlA, zlB, zlM, zlN, zlX, zlI, nI_add, Nat.add_eq_zero_iff, false_and, and_false, and_true, true_and, true_or, or_true, false_or, or_false, zbool_i, zb0, zb1, zshp_0, zcs_eq, zcs_n, zcs_cs, zup_g, zup_n, zg_srock2, zg_stug2, zg_ssun, zg_ssun0, zg_srock, zg_srock0, zg_stug, zg_stug0, zg_sord, zg_sord0, zg_srep, zg_srep0, zg_scla, zg_scla0, zg_scon, zg_scon0, zg_swin, zg_swin0, zg_sleg, zg_sleg0, zg_spro, zg_sstp, zg_swrd, zu_srock2, zu_stug2, zu_ssun, zu_ssun0, zu_srock, zu_srock0, zu_stug, zu_stug0, zu_sord, zu_sord0, zu_srep, zu_srep0, zu_scla, zu_scla0, zu_scon, zu_scon0, zu_swin, zu_swin0, zu_sleg, zu_sleg0, zu_spro, zu_sstp, zu_swrd]
  | succ m ih =>
    intro k u v v4 v6 v8 v9 v10 v11 v12 v13 hk hB2
    have hge : ¬ nI n ≤ nI k := nI_ge (by omega) (by omega)
    have hk3 : k < 3 := by omega
    rw [e227_28v]
    unfold zpls
    by_cases h : (zfar (C 41 k 0 - C 411 0 (4 * b)) (C 41 k 1 - C 411 0 (4 * b + 1))).toInt64 = 0
    · have hz : zpl (C 41 k) (C 411 0 (4 * b)) (C 411 0 (4 * b + 1)) (u, v) = (u, v) := by unfold zpl; rw [if_pos h]
      rw [hz]
      simp +decide (disch := omega) only [e227_39, e227_92, e227_102, e227_166, hn, hge, T201, lg_cmp_eq, h, zpre, ite_self, Nat.reduceAdd, zs1, zs2, zs3, zI_eqb, and_self, not_true_eq_false, if_true, if_false, ite_true, ite_false, not_false_eq_true, zBP, zBZ, zisO, zisA, zlen, decide_true, decide_false, Bool.and_self, Bool.and_true, Bool.true_and, cond_true, cond_false, zBG, zBR, zBU, zBV, zinb_n, zix_n, zlA, zlB, zlM, zlN, zlX, zlI, nI_add, Nat.add_eq_zero_iff, false_and, and_false, and_true, true_and, true_or, or_true, false_or, or_false, zbool_i, zb0, zb1, zshp_0, zcs_eq, zcs_n, zcs_cs, zup_g, zup_n, zg_srock2, zg_stug2, zg_ssun, zg_ssun0, zg_srock, zg_srock0, zg_stug, zg_stug0, zg_sord, zg_sord0, zg_srep, zg_srep0, zg_scla, zg_scla0, zg_scon, zg_scon0, zg_swin, zg_swin0, zg_sleg, zg_sleg0, zg_spro, zg_sstp, zg_swrd, zu_srock2, zu_stug2, zu_ssun, zu_ssun0, zu_srock, zu_srock0, zu_stug, zu_stug0, zu_sord, zu_sord0, zu_srep, zu_srep0, zu_scla, zu_scla0, zu_scon, zu_scon0, zu_swin, zu_swin0, zu_sleg, zu_sleg0, zu_spro, zu_sstp, zu_swrd]
      rw [ih _ _ _ _ _ _ _ _ _ _ _ (by omega) hB2]
    · have h2 := zsq64 _ h
      have hz := (show zpl (C 41 k) (C 411 0 (4 * b)) (C 411 0 (4 * b + 1)) (u, v) = _ from if_neg h)
      dsimp only at hz
      rw [hz]
      simp +decide (disch := omega) only [e227_39, e227_92, e227_105, e227_143, e227_163, e227_166, hn, hge, T201, lg_cmp_eq, h, h2, T215, zk1000, zpre, ite_self, Nat.reduceAdd, zs1, zs2, zs3, zI_eqb, and_self, not_true_eq_false, if_true, if_false, ite_true, ite_false, not_false_eq_true, zBP, zBZ, zisO, zisA, zlen, decide_true, decide_false, Bool.and_self, Bool.and_true, Bool.true_and, cond_true, cond_false, zBG, zBR, zBU, zBV, zinb_n, zix_n, zlA, zlB, zlM, zlN, zlX, zlI, nI_add, Nat.add_eq_zero_iff, false_and, and_false, and_true, true_and, true_or, or_true, false_or, or_false, zbool_i, zb0, zb1, zshp_0, zcs_eq, zcs_n, zcs_cs, zup_g, zup_n, zg_srock2, zg_stug2, zg_ssun, zg_ssun0, zg_srock, zg_srock0, zg_stug, zg_stug0, zg_sord, zg_sord0, zg_srep, zg_srep0, zg_scla, zg_scla0, zg_scon, zg_scon0, zg_swin, zg_swin0, zg_sleg, zg_sleg0, zg_spro, zg_sstp, zg_swrd, zu_srock2, zu_stug2, zu_ssun, zu_ssun0, zu_srock, zu_srock0, zu_stug, zu_stug0, zu_sord, zu_sord0, zu_srep, zu_srep0, zu_scla, zu_scla0, zu_scon, zu_scon0, zu_swin, zu_swin0, zu_sleg, zu_sleg0, zu_spro, zu_sstp, zu_swrd]
      rw [ih _ _ _ _ _ _ _ _ _ _ _ (by omega) ⟨zheld_B _, zheld_B _⟩]
theorem T227 (d L p0 p2 r2 r3 s4 n b : Nat) (C : zCt) (hb : b < 12) (hn3 : n ≤ 3) (hn : C 40 0 4 = nI n) (hB : zBq (zqd (C 411 0) (4 * b))) : zR (d + 3) 227 0 [.ref 201, .int (nI b), zmk, zmk, zmk, zmk, zmk, zmk, zmk, zmk, zmk, zmk, zmk, zmk] [] (zZ L, zI C, zPd p0 p2 r2 r3 s4) = some (none, (zZ L, zI (zcs C 411 (zbd (C 411) 0 (4 * b) (zdr (C 41) n (zqd (C 411 0) (4 * b))))), zPd p0 p2 r2 r3 s4)) := by
  have h := T227_28 d L p0 p2 r2 r3 s4 n b C (nI b) hb hn3 hn ⟨hB.1, hB.2.1⟩ n 0 (C 411 0 (4 * b + 2)) (C 411 0 (4 * b + 3)) (zkl zmk) (zkl zmk) zmk zmk zmk zmk zmk zmk (by omega) ⟨hB.2.2.1, hB.2.2.2⟩
  rw [zn0] at h
  rw [e227_0]
  simp +decide (disch := omega) only [h, zpre, ite_self, Nat.reduceAdd, zs1, zs2, zs3, zI_eqb, and_self, not_true_eq_false, if_true, if_false, ite_true, ite_false, not_false_eq_true, zBP, zBZ, zisO, zisA, zlen, decide_true, decide_false, Bool.and_self, Bool.and_true, Bool.true_and, cond_true, cond_false, zBG, zBR, zBU, zBV, zinb_n, zix_n, zlA, zlB, zlM, zlN, zlX, zlI, nI_add, Nat.add_eq_zero_iff, false_and, and_false, and_true, true_and, true_or, or_true, false_or, or_false, zbool_i, zb0, zb1, zshp_0, zcs_eq, zcs_n, zcs_cs, zup_g, zup_n, zg_srock2, zg_stug2, zg_ssun, zg_ssun0, zg_srock, zg_srock0, zg_stug, zg_stug0, zg_sord, zg_sord0, zg_srep, zg_srep0, zg_scla, zg_scla0, zg_scon, zg_scon0, zg_swin, zg_swin0, zg_sleg, zg_sleg0, zg_spro, zg_sstp, zg_swrd, zu_srock2, zu_stug2, zu_ssun, zu_ssun0, zu_srock, zu_srock0, zu_stug, zu_stug0, zu_sord, zu_sord0, zu_srep, zu_srep0, zu_scla, zu_scla0, zu_scon, zu_scon0, zu_swin, zu_swin0, zu_sleg, zu_sleg0, zu_spro, zu_sstp, zu_swrd]
  rfl
theorem T228 (d L p0 p2 r2 r3 s4 : Nat) (C : zCt) {t : Nat} (ht : t < 4) : zR d 228 0 [.ref 201, .int (nI t)] [] (zZ L, zI C, zPd p0 p2 r2 r3 s4) = some (some (.int (if C 43 t 9 = -1 then 1 else 0)), (zZ L, zI C, zPd p0 p2 r2 r3 s4)) := by
  by_cases h : C 43 t 9 = -1
  · simp +decide (disch := omega) only [e228_0, e228_20, e228_24, e228_25, h, zpre, ite_self, Nat.reduceAdd, zs1, zs2, zs3, zI_eqb, and_self, not_true_eq_false, if_true, if_false, ite_true, ite_false, not_false_eq_true, zBP, zBZ, zisO, zisA, zlen, decide_true, decide_false, Bool.and_self, Bool.and_true, Bool.true_and, cond_true, cond_false, zBG, zBR, zBU, zBV, zinb_n, zix_n, zlA, zlB, zlM, zlN, zlX, zlI, nI_add, Nat.add_eq_zero_iff, false_and, and_false, and_true, true_and, true_or, or_true, false_or, or_false, zbool_i, zb0, zb1, zshp_0, zcs_eq, zcs_n, zcs_cs, zup_g, zup_n, zg_srock2, zg_stug2, zg_ssun, zg_ssun0, zg_srock, zg_srock0, zg_stug, zg_stug0, zg_sord, zg_sord0, zg_srep, zg_srep0, zg_scla, zg_scla0, zg_scon, zg_scon0, zg_swin, zg_swin0, zg_sleg, zg_sleg0, zg_spro, zg_sstp, zg_swrd, zu_srock2, zu_stug2, zu_ssun, zu_ssun0, zu_srock, zu_srock0, zu_stug, zu_stug0, zu_sord, zu_sord0, zu_srep, zu_srep0, zu_scla, zu_scla0, zu_scon, zu_scon0, zu_swin, zu_swin0, zu_sleg, zu_sleg0, zu_spro, zu_sstp, zu_swrd]
  · simp +decide (disch := omega) only [e228_0, e228_20, e228_24, e228_25, h, zpre, ite_self, Nat.reduceAdd, zs1, zs2, zs3, zI_eqb, and_self, not_true_eq_false, if_true, if_false, ite_true, ite_false, not_false_eq_true, zBP, zBZ, zisO, zisA, zlen, decide_true, decide_false, Bool.and_self, Bool.and_true, Bool.true_and, cond_true, cond_false, zBG, zBR, zBU, zBV, zinb_n, zix_n, zlA, zlB, zlM, zlN, zlX, zlI, nI_add, Nat.add_eq_zero_iff, false_and, and_false, and_true, true_and, true_or, or_true, false_or, or_false, zbool_i, zb0, zb1, zshp_0, zcs_eq, zcs_n, zcs_cs, zup_g, zup_n, zg_srock2, zg_stug2, zg_ssun, zg_ssun0, zg_srock, zg_srock0, zg_stug, zg_stug0, zg_sord, zg_sord0, zg_srep, zg_srep0, zg_scla, zg_scla0, zg_scon, zg_scon0, zg_swin, zg_swin0, zg_sleg, zg_sleg0, zg_spro, zg_sstp, zg_swrd, zu_srock2, zu_stug2, zu_ssun, zu_ssun0, zu_srock, zu_srock0, zu_stug, zu_stug0, zu_sord, zu_sord0, zu_srep, zu_srep0, zu_scla, zu_scla0, zu_scon, zu_scon0, zu_swin, zu_swin0, zu_sleg, zu_sleg0, zu_spro, zu_sstp, zu_swrd]
theorem T226_2 (d L p0 p2 r2 r3 s4 n nr : Nat) (hn3 : n ≤ 3) (hr8 : nr ≤ 8) : ∀ (m k : Nat) (C : zCt), C 40 0 4 = nI n → C 40 0 5 = nI nr → (∀ b, b < nr → zBq (zqd (C 411 0) (4 * b))) → k + m = nr → ∃ F, zR (d + 4) 226 2 [.ref 201, .int (nI k)] [] (zZ L, zI C, zPd p0 p2 r2 r3 s4) = zR (d + 4) 226 25 [.ref 201, .int (nI 0)] [] (zZ L, zI (zcs C 411 F), zPd p0 p2 r2 r3 s4) ∧ ∀ b, zqd (F 0) (4 * b) = if k ≤ b ∧ b < nr then zdr (C 41) n (zqd (C 411 0) (4 * b)) else zqd (C 411 0) (4 * b) := by
  intro m
  induction m with
  | zero =>
    intro k C hn hr hB hk
    have hk : k = nr := by omega
    subst hk
    have h1 : nI k ≤ nI k := Int32.le_refl _
    refine ⟨C 411, ?_, fun b => by rw [if_neg (by omega)]⟩
    rw [zcs_self, e226_2, zn0]
    simp +decide (disch := omega) only [e226_23, hr, h1, zpre, ite_self, Nat.reduceAdd, zs1, zs2, zs3, zI_eqb, and_self, not_true_eq_false, if_true, if_false, ite_true, ite_false, not_false_eq_true, zBP, zBZ, zisO, zisA, zlen, decide_true, decide_false, Bool.and_self, Bool.and_true, Bool.true_and, cond_true, cond_false, zBG, zBR, zBU, zBV, zinb_n, zix_n, zlA, zlB, zlM, zlN, zlX, zlI, nI_add, Nat.add_eq_zero_iff, false_and, and_false, and_true, true_and, true_or, or_true, false_or, or_false, zbool_i, zb0, zb1, zshp_0, zcs_eq, zcs_n, zcs_cs, zup_g, zup_n, zg_srock2, zg_stug2, zg_ssun, zg_ssun0, zg_srock, zg_srock0, zg_stug, zg_stug0, zg_sord, zg_sord0, zg_srep, zg_srep0, zg_scla, zg_scla0, zg_scon, zg_scon0, zg_swin, zg_swin0, zg_sleg, zg_sleg0, zg_spro, zg_sstp, zg_swrd, zu_srock2, zu_stug2, zu_ssun, zu_ssun0, zu_srock, zu_srock0, zu_stug, zu_stug0, zu_sord, zu_sord0, zu_srep, zu_srep0, zu_scla, zu_scla0, zu_scon, zu_scon0, zu_swin, zu_swin0, zu_sleg, zu_sleg0, zu_spro, zu_sstp, zu_swrd]
  | succ m ih =>
    intro k C hn hr hB hk
    have hge : ¬ nI nr ≤ nI k := nI_ge (by omega) (by omega)
    have h227 := T227 d L p0 p2 r2 r3 s4 n k C (by omega) hn3 hn (hB k (by omega))
    obtain ⟨F, f1, f2⟩ := ih (k + 1) (zcs C 411 (zbd (C 411) 0 (4 * k) (zdr (C 41) n (zqd (C 411 0) (4 * k))))) (by rw [zcs_n _ _ (by decide)]; exact hn) (by rw [zcs_n _ _ (by decide)]; exact hr) (fun b hb => by
      rw [zcs_eq]
      by_cases e : b = k
      · subst e
        rw [zbd_q]; exact zdr_B _ _ (hB b hb)
      · rw [zbd_qo _ _ (by omega)]; exact hB b hb) (by omega)
    refine ⟨F, ?_, fun b => ?_⟩
    · rw [zcs_cs] at f1
      rw [← f1, e226_2]
      simp +decide (disch := omega) only [e226_12, e226_17, hr, hge, h227, zpre, ite_self, Nat.reduceAdd, zs1, zs2, zs3, zI_eqb, and_self, not_true_eq_false, if_true, if_false, ite_true, ite_false, not_false_eq_true, zBP, zBZ, zisO, zisA, zlen, decide_true, decide_false, Bool.and_self, Bool.and_true, Bool.true_and, cond_true, cond_false, zBG, zBR, zBU, zBV, zinb_n, zix_n, zlA, zlB, zlM, zlN, zlX, zlI, nI_add, Nat.add_eq_zero_iff, false_and, and_false, and_true, true_and, true_or, or_true, false_or, or_false, zbool_i, zb0, zb1, zshp_0, zcs_eq, zcs_n, zcs_cs, zup_g, zup_n, zg_srock2, zg_stug2, zg_ssun, zg_ssun0, zg_srock, zg_srock0, zg_stug, zg_stug0, zg_sord, zg_sord0, zg_srep, zg_srep0, zg_scla, zg_scla0, zg_scon, zg_scon0, zg_swin, zg_swin0, zg_sleg, zg_sleg0, zg_spro, zg_sstp, zg_swrd, zu_srock2, zu_stug2, zu_ssun, zu_ssun0, zu_srock, zu_srock0, zu_stug, zu_stug0, zu_sord, zu_sord0, zu_srep, zu_srep0, zu_scla, zu_scla0, zu_scon, zu_scon0, zu_swin, zu_swin0, zu_sleg, zu_sleg0, zu_spro, zu_sstp, zu_swrd]
    · rw [f2 b, zcs_eq, zcs_n _ _ (by decide)]
      by_cases e : b = k
      · subst e
        rw [zbd_q, if_neg (by omega), if_pos (by omega)]
      · rw [zbd_qo _ _ (by omega)]
        by_cases e2 : k ≤ b ∧ b < nr
        · rw [if_pos e2, if_pos (by omega)]
        · rw [if_neg e2, if_neg (by omega)]
theorem T226_25 (d L p0 p2 r2 r3 s4 n nt : Nat) (hn3 : n ≤ 3) (ht4 : nt ≤ 4) : ∀ (m k : Nat) (C : zCt), C 40 0 4 = nI n → C 40 0 6 = nI nt → (∀ t, t < nt → C 43 t 9 = -1 → zBq (zqd (C 411 0) (4 * (8 + t)))) → k + m = nt → ∃ F, zR (d + 4) 226 25 [.ref 201, .int (nI k)] [] (zZ L, zI C, zPd p0 p2 r2 r3 s4) = some (none, (zZ L, zI (zcs C 411 F), zPd p0 p2 r2 r3 s4)) ∧ (∀ b, b < 8 → zqd (F 0) (4 * b) = zqd (C 411 0) (4 * b)) ∧ ∀ t, zqd (F 0) (4 * (8 + t)) = if (k ≤ t ∧ t < nt) ∧ C 43 t 9 = -1 then zdr (C 41) n (zqd (C 411 0) (4 * (8 + t))) else zqd (C 411 0) (4 * (8 + t)) := by
  intro m
  induction m with
  | zero =>
    intro k C hn hr hB hk
    have hk : k = nt := by omega
    subst hk
    have h1 : nI k ≤ nI k := Int32.le_refl _
    refine ⟨C 411, ?_, fun _ _ => rfl, fun b => by rw [if_neg (fun e => by omega)]⟩
    rw [zcs_self, e226_25]
    simp +decide (disch := omega) only [e226_58, hr, h1, zpre, ite_self, Nat.reduceAdd, zs1, zs2, zs3, zI_eqb, and_self, not_true_eq_false, if_true, if_false, ite_true, ite_false, not_false_eq_true, zBP, zBZ, zisO, zisA, zlen, decide_true, decide_false, Bool.and_self, Bool.and_true, Bool.true_and, cond_true, cond_false, zBG, zBR, zBU, zBV, zinb_n, zix_n, zlA, zlB, zlM, zlN, zlX, zlI, nI_add, Nat.add_eq_zero_iff, false_and, and_false, and_true, true_and, true_or, or_true, false_or, or_false, zbool_i, zb0, zb1, zshp_0, zcs_eq, zcs_n, zcs_cs, zup_g, zup_n, zg_srock2, zg_stug2, zg_ssun, zg_ssun0, zg_srock, zg_srock0, zg_stug, zg_stug0, zg_sord, zg_sord0, zg_srep, zg_srep0, zg_scla, zg_scla0, zg_scon, zg_scon0, zg_swin, zg_swin0, zg_sleg, zg_sleg0, zg_spro, zg_sstp, zg_swrd, zu_srock2, zu_stug2, zu_ssun, zu_ssun0, zu_srock, zu_srock0, zu_stug, zu_stug0, zu_sord, zu_sord0, zu_srep, zu_srep0, zu_scla, zu_scla0, zu_scon, zu_scon0, zu_swin, zu_swin0, zu_sleg, zu_sleg0, zu_spro, zu_sstp, zu_swrd]
  | succ m ih =>
    intro k C hn hr hB hk
    have hge : ¬ nI nt ≤ nI k := nI_ge (by omega) (by omega)
    have hk4 : k < 4 := by omega
    have h228 := T228 (d + 3) L p0 p2 r2 r3 s4 C hk4
    by_cases hf : C 43 k 9 = -1
    · have h227 := T227 d L p0 p2 r2 r3 s4 n (8 + k) C (by omega) hn3 hn (hB k (by omega) hf)
      obtain ⟨F, f1, f2, f3⟩ := ih (k + 1) (zcs C 411 (zbd (C 411) 0 (4 * (8 + k)) (zdr (C 41) n (zqd (C 411 0) (4 * (8 + k)))))) (by rw [zcs_n _ _ (by decide)]; exact hn) (by rw [zcs_n _ _ (by decide)]; exact hr) (fun t ht h43 => by
        rw [zcs_n _ _ (by decide)] at h43
        rw [zcs_eq]
        by_cases e : t = k
        · subst e
          rw [zbd_q]; exact zdr_B _ _ (hB t ht h43)
        · rw [zbd_qo _ _ (by omega)]; exact hB t ht h43) (by omega)
      refine ⟨F, ?_, fun b hb => ?_, fun t => ?_⟩
      · rw [zcs_cs] at f1
        rw [← f1, e226_25]
        simp +decide (disch := omega) only [e226_36, e226_41, e226_44, e226_52, hr, hge, hf, h228, h227, zpre, ite_self, Nat.reduceAdd, zs1, zs2, zs3, zI_eqb, and_self, not_true_eq_false, if_true, if_false, ite_true, ite_false, not_false_eq_true, zBP, zBZ, zisO, zisA, zlen, decide_true, decide_false, Bool.and_self, Bool.and_true, Bool.true_and, cond_true, cond_false, zBG, zBR, zBU, zBV, zinb_n, zix_n, zlA, zlB, zlM, zlN, zlX, zlI, nI_add, Nat.add_eq_zero_iff, false_and, and_false, and_true, true_and, true_or, or_true, false_or, or_false, zbool_i, zb0, zb1, zshp_0, zcs_eq, zcs_n, zcs_cs, zup_g, zup_n, zg_srock2, zg_stug2, zg_ssun, zg_ssun0, zg_srock, zg_srock0, zg_stug, zg_stug0, zg_sord, zg_sord0, zg_srep, zg_srep0, zg_scla, zg_scla0, zg_scon, zg_scon0, zg_swin, zg_swin0, zg_sleg, zg_sleg0, zg_spro, zg_sstp, zg_swrd, zu_srock2, zu_stug2, zu_ssun, zu_ssun0, zu_srock, zu_srock0, zu_stug, zu_stug0, zu_sord, zu_sord0, zu_srep, zu_srep0, zu_scla, zu_scla0, zu_scon, zu_scon0, zu_swin, zu_swin0, zu_sleg, zu_sleg0, zu_spro, zu_sstp, zu_swrd]
      · rw [f2 b hb, zcs_eq, zbd_qo _ _ (by omega)]
      · rw [f3 t, zcs_eq, zcs_n _ _ (by decide), zcs_n _ _ (by decide)]
        by_cases e : t = k
        · subst e
          rw [zbd_q, if_neg (by omega), if_pos ⟨by omega, hf⟩]
        · rw [zbd_qo _ _ (by omega)]
          by_cases e2 : (k ≤ t ∧ t < nt) ∧ C 43 t 9 = -1
          · rw [if_pos e2, if_pos ⟨by omega, e2.2⟩]
          · rw [if_neg e2, if_neg (fun q => e2 ⟨by omega, q.2⟩)]
    · obtain ⟨F, f1, f2, f3⟩ := ih (k + 1) C hn hr hB (by omega)
      refine ⟨F, ?_, f2, fun t => ?_⟩
      · rw [← f1, e226_25]
        simp +decide (disch := omega) only [e226_36, e226_41, e226_52, hr, hge, hf, h228, zpre, ite_self, Nat.reduceAdd, zs1, zs2, zs3, zI_eqb, and_self, not_true_eq_false, if_true, if_false, ite_true, ite_false, not_false_eq_true, zBP, zBZ, zisO, zisA, zlen, decide_true, decide_false, Bool.and_self, Bool.and_true, Bool.true_and, cond_true, cond_false, zBG, zBR, zBU, zBV, zinb_n, zix_n, zlA, zlB, zlM, zlN, zlX, zlI, nI_add, Nat.add_eq_zero_iff, false_and, and_false, and_true, true_and, true_or, or_true, false_or, or_false, zbool_i, zb0, zb1, zshp_0, zcs_eq, zcs_n, zcs_cs, zup_g, zup_n, zg_srock2, zg_stug2, zg_ssun, zg_ssun0, zg_srock, zg_srock0, zg_stug, zg_stug0, zg_sord, zg_sord0, zg_srep, zg_srep0, zg_scla, zg_scla0, zg_scon, zg_scon0, zg_swin, zg_swin0, zg_sleg, zg_sleg0, zg_spro, zg_sstp, zg_swrd, zu_srock2, zu_stug2, zu_ssun, zu_ssun0, zu_srock, zu_srock0, zu_stug, zu_stug0, zu_sord, zu_sord0, zu_srep, zu_srep0, zu_scla, zu_scla0, zu_scon, zu_scon0, zu_swin, zu_swin0, zu_sleg, zu_sleg0, zu_spro, zu_sstp, zu_swrd]
      · rw [f3 t]
        by_cases e2 : (k ≤ t ∧ t < nt) ∧ C 43 t 9 = -1
        · have : t ≠ k := fun e => hf (by rw [← e]; exact e2.2)
          rw [if_pos e2, if_pos ⟨by omega, e2.2⟩]
        · rw [if_neg e2, if_neg (fun q => e2 ⟨by omega, q.2⟩)]
theorem T226 (d L p0 p2 r2 r3 s4 n nr nt : Nat) (C : zCt) (v : Value) (hn3 : n ≤ 3) (hr8 : nr ≤ 8) (ht4 : nt ≤ 4) (hn : C 40 0 4 = nI n) (hr : C 40 0 5 = nI nr) (ht : C 40 0 6 = nI nt) (hB : ∀ b, b < nr → zBq (zqd (C 411 0) (4 * b))) (hB2 : ∀ t, t < nt → C 43 t 9 = -1 → zBq (zqd (C 411 0) (4 * (8 + t)))) : ∃ F, zR (d + 4) 226 0 [.ref 201, v] [] (zZ L, zI C, zPd p0 p2 r2 r3 s4) = some (none, (zZ L, zI (zcs C 411 F), zPd p0 p2 r2 r3 s4)) ∧ (∀ b, b < nr → zqd (F 0) (4 * b) = zdr (C 41) n (zqd (C 411 0) (4 * b))) ∧ ∀ t, t < nt → zqd (F 0) (4 * (8 + t)) = if C 43 t 9 = -1 then zdr (C 41) n (zqd (C 411 0) (4 * (8 + t))) else zqd (C 411 0) (4 * (8 + t)) := by
  obtain ⟨F, f1, f2⟩ := T226_2 d L p0 p2 r2 r3 s4 n nr hn3 hr8 nr 0 C hn hr hB (by omega)
  have f2b : ∀ t, zqd (F 0) (4 * (8 + t)) = zqd (C 411 0) (4 * (8 + t)) := fun t => by rw [f2, if_neg (by omega)]
  obtain ⟨G, g1, g2, g3⟩ := T226_25 d L p0 p2 r2 r3 s4 n nt hn3 ht4 nt 0 (zcs C 411 F) (by rw [zcs_n _ _ (by decide)]; exact hn) (by rw [zcs_n _ _ (by decide)]; exact ht) (fun t ht h43 => by
    rw [zcs_n _ _ (by decide)] at h43
    rw [zcs_eq, f2b]; exact hB2 t ht h43) (by omega)
  rw [zcs_cs] at g1
  simp only [zcs_eq] at g2 g3
  refine ⟨G, ?_, fun b hb => ?_, fun t ht => ?_⟩
  · rw [e226_0, ← zn0, f1, g1]
  · rw [g2 b (by omega), f2 b, if_pos (by omega)]
  · rw [g3 t, f2b, zcs_n _ _ (by decide), zcs_n _ _ (by decide)]
    by_cases e : C 43 t 9 = -1
    · rw [if_pos ⟨by omega, e⟩, if_pos e]
    · rw [if_neg (fun q => e q.2), if_neg e]
